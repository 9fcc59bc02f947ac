-- X11_readRule
def F_X11_readRule_129 (g : Nat × Nat) (a1 : Int32)  (x1 : Int32) (x2 : Int32) (s : St) : Option (Unit × St) := (gd (inb x1 30) (some ((), (up (up s 81 0 x1.toNatClampNeg x2) 60 0 29 ((s 60 0 29) + (1 : Int32))))))
set_option maxRecDepth 100000 in
set_option maxHeartbeats 4000000 in
theorem w_X11_readRule_129 {Z : ZE} {l : Launch} (hZ : OkM Z) {a1 : Int32}  {R : Unit × St}  (x1 : Int32) (x2 : Int32)  (s : St) (hF : F_X11_readRule_129 (zg Z) a1 x1 x2 s = some R) : AW Z l iX11_readRule (Pq (rU R)) 0 0 129 [(0, .ref (za Z 60 0))] [.int x2, .int x1, .ref (za Z 81 0)] s := by
  unfold F_X11_readRule_129 at hF
  obtain ⟨b1, hF⟩ := gd_some hF
  refine a_iast hZ.1 (hZ.2 81 0 (by decide) (by decide) Nat.one_pos) rfl rfl (inb_vp b1) dX11_readRule_129 ?_
  refine a_aload_n dX11_readRule_130 0 rfl rfl ?_
  refine a_dup dX11_readRule_131 rfl ?_
  refine a_getI hZ.1 (s 60 0 29) (hZ.2 60 0 (by decide) (by decide) Nat.one_pos) fl_X11_280 rfl rfl dX11_readRule_132 ?_
  refine a_iconst (v := (1 : Int32)) dX11_readRule_135 (by decide) ?_
  refine a_iadd dX11_readRule_136 ?_
  refine a_put hZ.1 (hZ.2 60 0 (by decide) (by decide) Nat.one_pos) fl_X11_280 rfl rfl rfl dX11_readRule_137 ?_
  replace hF := Option.some.inj hF
  subst hF
  exact a_vret rfl (Nat.zero_le _) (Nat.zero_le _) dX11_readRule_140 ⟨rfl, rfl⟩
def F_X11_readRule_126 (g : Nat × Nat) (a1 : Int32)  (x1 : Int32) (x3 : Int32) (s : St) : Option (Unit × St) := (bd (F_X11_numberTo g x3 s) (fun r126 s126 => (F_X11_readRule_129 g a1  x1 r126 s126)))
set_option maxRecDepth 100000 in
set_option maxHeartbeats 4000000 in
theorem w_X11_readRule_126 {Z : ZE} {l : Launch} (hZ : OkM Z) {a1 : Int32}  {R : Unit × St}  (x1 : Int32) (x3 : Int32)  (s : St) (hF : F_X11_readRule_126 (zg Z) a1 x1 x3 s = some R) : AW Z l iX11_readRule (Pq (rU R)) 0 0 126 [(0, .ref (za Z 60 0))] [.int x3, .ref (za Z 60 0), .int x1, .ref (za Z 81 0)] s := by
  unfold F_X11_readRule_126 at hF
  obtain ⟨r126, s126, e126, hF⟩ := bd_some hF
  refine a_invV hZ.1 (As := [.int x3]) (rest := [.int x1, .ref (za Z 81 0)]) (hZ.2 60 0 (by decide) (by decide) Nat.one_pos) lk_X11_283 ⟨⟨by decide, by decide⟩, by decide, by decide⟩ rfl (Nat.le_of_ble_eq_true rfl) dX11_readRule_126 (m_X11_numberTo hZ  e126) ?_
  show AW Z l iX11_readRule (Pq (rU R)) 0 0 129 [(0, .ref (za Z 60 0))] [.int r126, .int x1, .ref (za Z 81 0)] s126
  exact w_X11_readRule_129 (l := l) hZ   x1 r126  _ hF
def F_X11_readRule_94 (g : Nat × Nat) (a1 : Int32)  (v2 : Int32) (x1 : Int32) (x2 : Int32) (s : St) : Option (Unit × St) := (gd (inb x1 30) (if v2 = (4 : Int32) then (F_X11_readRule_129 g a1  (s 60 0 29) (0 : Int32) (up s 80 0 x1.toNatClampNeg x2)) else (if v2 = (2 : Int32) then (F_X11_readRule_126 g a1  (s 60 0 29) (9999 : Int32) (up s 80 0 x1.toNatClampNeg x2)) else (F_X11_readRule_126 g a1  (s 60 0 29) (99 : Int32) (up s 80 0 x1.toNatClampNeg x2)))))
set_option maxRecDepth 100000 in
set_option maxHeartbeats 4000000 in
theorem w_X11_readRule_94 {Z : ZE} {l : Launch} (hZ : OkM Z) {a1 : Int32}  {R : Unit × St}  (v2 : Int32) (x1 : Int32) (x2 : Int32)  (s : St) (hF : F_X11_readRule_94 (zg Z) a1 v2 x1 x2 s = some R) : AW Z l iX11_readRule (Pq (rU R)) 0 0 94 [(0, .ref (za Z 60 0)), (2, .int v2)] [.int x2, .int x1, .ref (za Z 80 0)] s := by
  unfold F_X11_readRule_94 at hF
  obtain ⟨b1, hF⟩ := gd_some hF
  refine a_iast hZ.1 (hZ.2 80 0 (by decide) (by decide) Nat.one_pos) rfl rfl (inb_vp b1) dX11_readRule_94 ?_
  refine a_aload_n dX11_readRule_95 0 rfl rfl ?_
  refine a_getR hZ.1 (hZ.2 60 0 (by decide) (by decide) Nat.one_pos) fl_X11_82 rfl 0 rfl dX11_readRule_96 ?_
  refine a_aload_n dX11_readRule_99 0 rfl rfl ?_
  refine a_getI hZ.1 (s 60 0 29) (hZ.2 60 0 (by decide) (by decide) Nat.one_pos) fl_X11_280 rfl rfl dX11_readRule_100 ?_
  refine a_iload_n dX11_readRule_103 1 rfl rfl ?_
  refine a_iconst (v := (4 : Int32)) dX11_readRule_104 (by decide) ?_
  refine a_icmp_ne 112 dX11_readRule_105 (by decide) (fun c2 => ?_) (fun c2 => ?_)
  · replace hF := (if_neg c2).symm.trans hF
    refine a_aload_n dX11_readRule_112 0 rfl rfl ?_
    refine a_iload_n dX11_readRule_113 1 rfl rfl ?_
    refine a_iconst (v := (2 : Int32)) dX11_readRule_114 (by decide) ?_
    refine a_icmp_ne 124 dX11_readRule_115 (by decide) (fun c3 => ?_) (fun c3 => ?_)
    · replace hF := (if_neg c3).symm.trans hF
      refine a_bipush (v := (99 : Int32)) dX11_readRule_124 (by decide) ?_
      refine a_loc [(0, .ref (za Z 60 0))] [0] rfl ?_
      exact w_X11_readRule_126 (l := l) hZ   (s 60 0 29) (99 : Int32)  _ hF
    · replace hF := (if_pos c3).symm.trans hF
      refine a_sipush (v := (9999 : Int32)) dX11_readRule_118 (by decide) ?_
      refine a_goto 126 dX11_readRule_121 (by decide) ?_
      refine a_loc [(0, .ref (za Z 60 0))] [0] rfl ?_
      exact w_X11_readRule_126 (l := l) hZ   (s 60 0 29) (9999 : Int32)  _ hF
  · replace hF := (if_pos c2).symm.trans hF
    refine a_iconst (v := (0 : Int32)) dX11_readRule_108 (by decide) ?_
    refine a_goto 129 dX11_readRule_109 (by decide) ?_
    refine a_loc [(0, .ref (za Z 60 0))] [0] rfl ?_
    exact w_X11_readRule_129 (l := l) hZ   (s 60 0 29) (0 : Int32)  _ hF
def F_X11_readRule_85 (g : Nat × Nat) (a1 : Int32)  (v2 : Int32) (x1 : Int32) (s : St) : Option (Unit × St) := (bd (F_X11_numberTo g (3 : Int32) s) (fun r87 s87 => (F_X11_readRule_94 g a1  v2 x1 r87 s87)))
set_option maxRecDepth 100000 in
set_option maxHeartbeats 4000000 in
theorem w_X11_readRule_85 {Z : ZE} {l : Launch} (hZ : OkM Z) {a1 : Int32}  {R : Unit × St}  (v2 : Int32) (x1 : Int32)  (s : St) (hF : F_X11_readRule_85 (zg Z) a1 v2 x1 s = some R) : AW Z l iX11_readRule (Pq (rU R)) 0 0 85 [(0, .ref (za Z 60 0)), (2, .int v2)] [.int x1, .ref (za Z 80 0)] s := by
  unfold F_X11_readRule_85 at hF
  refine a_aload_n dX11_readRule_85 0 rfl rfl ?_
  refine a_iconst (v := (3 : Int32)) dX11_readRule_86 (by decide) ?_
  obtain ⟨r87, s87, e87, hF⟩ := bd_some hF
  refine a_invV hZ.1 (As := [.int (3 : Int32)]) (rest := [.int x1, .ref (za Z 80 0)]) (hZ.2 60 0 (by decide) (by decide) Nat.one_pos) lk_X11_283 ⟨⟨by decide, by decide⟩, by decide, by decide⟩ rfl (Nat.le_of_ble_eq_true rfl) dX11_readRule_87 (m_X11_numberTo hZ  e87) ?_
  show AW Z l iX11_readRule (Pq (rU R)) 0 0 90 [(0, .ref (za Z 60 0)), (2, .int v2)] [.int r87, .int x1, .ref (za Z 80 0)] s87
  refine a_goto 94 dX11_readRule_90 (by decide) ?_
  exact w_X11_readRule_94 (l := l) hZ   v2 x1 r87  _ hF
def F_X11_readRule_37 (g : Nat × Nat) (a1 : Int32)  (v2 : Int32) (x1 : Int32) (s : St) : Option (Unit × St) := (bd (F_X11_must g x1 s) (fun r37 s37 => (if (s37 60 0 38) ≤ 0 then (gd (inb (s37 60 0 29) 30) (gd (inb (s37 60 0 29) 30) (if v2 = 0 then (F_X11_readRule_85 g a1  v2 (s37 60 0 29) (up (up s37 78 0 (s37 60 0 29).toNatClampNeg a1) 79 0 (s37 60 0 29).toNatClampNeg v2)) else (if v2 = (4 : Int32) then (F_X11_readRule_85 g a1  v2 (s37 60 0 29) (up (up s37 78 0 (s37 60 0 29).toNatClampNeg a1) 79 0 (s37 60 0 29).toNatClampNeg v2)) else (F_X11_readRule_94 g a1  v2 (s37 60 0 29) (0 : Int32) (up (up s37 78 0 (s37 60 0 29).toNatClampNeg a1) 79 0 (s37 60 0 29).toNatClampNeg v2)))))) else (some ((), s37)))))
set_option maxRecDepth 100000 in
set_option maxHeartbeats 4000000 in
theorem w_X11_readRule_37 {Z : ZE} {l : Launch} (hZ : OkM Z) {a1 : Int32}  {R : Unit × St}  (v2 : Int32) (x1 : Int32)  (s : St) (hF : F_X11_readRule_37 (zg Z) a1 v2 x1 s = some R) : AW Z l iX11_readRule (Pq (rU R)) 0 0 37 [(0, .ref (za Z 60 0)), (1, .int a1), (2, .int v2)] [.int x1, .ref (za Z 60 0)] s := by
  unfold F_X11_readRule_37 at hF
  obtain ⟨r37, s37, e37, hF⟩ := bd_some hF
  refine a_invV hZ.1 (As := [.int x1]) (rest := []) (hZ.2 60 0 (by decide) (by decide) Nat.one_pos) lk_X11_258 ⟨⟨by decide, by decide⟩, by decide, by decide⟩ rfl (Nat.le_of_ble_eq_true rfl) dX11_readRule_37 (m_X11_must hZ  e37) ?_
  show AW Z l iX11_readRule (Pq (rU R)) 0 0 40 [(0, .ref (za Z 60 0)), (1, .int a1), (2, .int v2)] [] s37
  refine a_aload_n dX11_readRule_40 0 rfl rfl ?_
  refine a_getI hZ.1 (s37 60 0 38) (hZ.2 60 0 (by decide) (by decide) Nat.one_pos) fl_X11_246 rfl rfl dX11_readRule_41 ?_
  refine a_if_le 48 dX11_readRule_44 (by decide) (fun c1 => ?_) (fun c1 => ?_)
  · replace hF := (if_pos c1).symm.trans hF
    refine a_aload_n dX11_readRule_48 0 rfl rfl ?_
    refine a_getR hZ.1 (hZ.2 60 0 (by decide) (by decide) Nat.one_pos) fl_X11_73 rfl 0 rfl dX11_readRule_49 ?_
    refine a_aload_n dX11_readRule_52 0 rfl rfl ?_
    refine a_getI hZ.1 (s37 60 0 29) (hZ.2 60 0 (by decide) (by decide) Nat.one_pos) fl_X11_280 rfl rfl dX11_readRule_53 ?_
    refine a_iload_n dX11_readRule_56 1 rfl rfl ?_
    obtain ⟨b2, hF⟩ := gd_some hF
    refine a_iast hZ.1 (hZ.2 78 0 (by decide) (by decide) Nat.one_pos) rfl rfl (inb_vp b2) dX11_readRule_57 ?_
    refine a_aload_n dX11_readRule_58 0 rfl rfl ?_
    refine a_getR hZ.1 (hZ.2 60 0 (by decide) (by decide) Nat.one_pos) fl_X11_76 rfl 0 rfl dX11_readRule_59 ?_
    refine a_aload_n dX11_readRule_62 0 rfl rfl ?_
    refine a_getI hZ.1 (s37 60 0 29) (hZ.2 60 0 (by decide) (by decide) Nat.one_pos) fl_X11_280 rfl rfl dX11_readRule_63 ?_
    refine a_iload_n dX11_readRule_66 2 rfl rfl ?_
    obtain ⟨b3, hF⟩ := gd_some hF
    refine a_iast hZ.1 (hZ.2 79 0 (by decide) (by decide) Nat.one_pos) rfl rfl (inb_vp b3) dX11_readRule_67 ?_
    refine a_aload_n dX11_readRule_68 0 rfl rfl ?_
    refine a_getR hZ.1 (hZ.2 60 0 (by decide) (by decide) Nat.one_pos) fl_X11_79 rfl 0 rfl dX11_readRule_69 ?_
    refine a_aload_n dX11_readRule_72 0 rfl rfl ?_
    refine a_getI hZ.1 (s37 60 0 29) (hZ.2 60 0 (by decide) (by decide) Nat.one_pos) fl_X11_280 rfl rfl dX11_readRule_73 ?_
    refine a_iload_n dX11_readRule_76 2 rfl rfl ?_
    refine a_if_eq 85 dX11_readRule_77 (by decide) (fun c4 => ?_) (fun c4 => ?_)
    · replace hF := (if_pos c4).symm.trans hF
      refine a_loc [(0, .ref (za Z 60 0)), (2, .int v2)] [0, 2] rfl ?_
      exact w_X11_readRule_85 (l := l) hZ   v2 (s37 60 0 29)  _ hF
    · replace hF := (if_neg c4).symm.trans hF
      refine a_iload_n dX11_readRule_80 2 rfl rfl ?_
      refine a_iconst (v := (4 : Int32)) dX11_readRule_81 (by decide) ?_
      refine a_icmp_ne 93 dX11_readRule_82 (by decide) (fun c5 => ?_) (fun c5 => ?_)
      · replace hF := (if_neg c5).symm.trans hF
        refine a_iconst (v := (0 : Int32)) dX11_readRule_93 (by decide) ?_
        refine a_loc [(0, .ref (za Z 60 0)), (2, .int v2)] [0, 2] rfl ?_
        exact w_X11_readRule_94 (l := l) hZ   v2 (s37 60 0 29) (0 : Int32)  _ hF
      · replace hF := (if_pos c5).symm.trans hF
        refine a_loc [(0, .ref (za Z 60 0)), (2, .int v2)] [0, 2] rfl ?_
        exact w_X11_readRule_85 (l := l) hZ   v2 (s37 60 0 29)  _ hF
  · replace hF := (if_neg c1).symm.trans hF
    replace hF := Option.some.inj hF
    subst hF
    exact a_vret rfl (Nat.zero_le _) (Nat.zero_le _) dX11_readRule_47 ⟨rfl, rfl⟩
def F_X11_readRule_25 (g : Nat × Nat) (a1 : Int32)  (v2 : Int32) (s : St) : Option (Unit × St) := (if v2 = (-1000000) then (F_X11_readRule_37 g a1  v2 (0 : Int32) s) else (F_X11_readRule_37 g a1  v2 (1 : Int32) s))
set_option maxRecDepth 100000 in
set_option maxHeartbeats 4000000 in
theorem w_X11_readRule_25 {Z : ZE} {l : Launch} (hZ : OkM Z) {a1 : Int32}  {R : Unit × St}  (v2 : Int32)  (s : St) (hF : F_X11_readRule_25 (zg Z) a1 v2 s = some R) : AW Z l iX11_readRule (Pq (rU R)) 0 0 25 [(0, .ref (za Z 60 0)), (1, .int a1), (2, .int v2)] [] s := by
  unfold F_X11_readRule_25 at hF
  refine a_aload_n dX11_readRule_25 0 rfl rfl ?_
  refine a_iload_n dX11_readRule_26 2 rfl rfl ?_
  refine a_ldc (v := (-1000000)) kw_951 dX11_readRule_27 ?_
  refine a_icmp_eq 36 dX11_readRule_29 (by decide) (fun c1 => ?_) (fun c1 => ?_)
  · replace hF := (if_pos c1).symm.trans hF
    refine a_iconst (v := (0 : Int32)) dX11_readRule_36 (by decide) ?_
    exact w_X11_readRule_37 (l := l) hZ   v2 (0 : Int32)  _ hF
  · replace hF := (if_neg c1).symm.trans hF
    refine a_iconst (v := (1 : Int32)) dX11_readRule_32 (by decide) ?_
    refine a_goto 37 dX11_readRule_33 (by decide) ?_
    exact w_X11_readRule_37 (l := l) hZ   v2 (1 : Int32)  _ hF
def F_X11_readRule (g : Nat × Nat) (a1 : Int32)   (s : St) : Option (Unit × St) := (bd (F_X11_ruleOfWord g  s) (fun r1 s1 => (if r1 = (-1000000) then (F_X11_readRule_25 g a1  r1 s1) else (if (s1 60 0 29) = (30 : Int32) then (bd (F_X11_bad g (3 : Int32) s1) (fun r22 s22 => (F_X11_readRule_25 g a1  r1 s22))) else (F_X11_readRule_25 g a1  r1 s1)))))
set_option maxRecDepth 100000 in
set_option maxHeartbeats 4000000 in
theorem w_X11_readRule {Z : ZE} {l : Launch} (hZ : OkM Z) {a1 : Int32}  {R : Unit × St}    (s : St) (hF : F_X11_readRule (zg Z) a1  s = some R) : AW Z l iX11_readRule (Pq (rU R)) 0 0 0 [(0, .ref (za Z 60 0)), (1, .int a1)] [] s := by
  unfold F_X11_readRule at hF
  refine a_aload_n dX11_readRule_0 0 rfl rfl ?_
  obtain ⟨r1, s1, e1, hF⟩ := bd_some hF
  refine a_invV hZ.1 (As := []) (rest := []) (hZ.2 60 0 (by decide) (by decide) Nat.one_pos) lk_X11_276 ⟨⟨by decide, by decide⟩, by decide, by decide⟩ rfl (Nat.le_of_ble_eq_true rfl) dX11_readRule_1 (m_X11_ruleOfWord hZ  e1) ?_
  show AW Z l iX11_readRule (Pq (rU R)) 0 0 4 [(0, .ref (za Z 60 0)), (1, .int a1)] [.int r1] s1
  refine a_istore_n [(2, .int r1), (0, .ref (za Z 60 0)), (1, .int a1)] dX11_readRule_4 rfl (by decide) rfl ?_
  refine a_iload_n dX11_readRule_5 0 rfl rfl ?_
  refine a_ldc (v := (-1000000)) kw_951 dX11_readRule_6 ?_
  refine a_icmp_eq 25 dX11_readRule_8 (by decide) (fun c1 => ?_) (fun c1 => ?_)
  · replace hF := (if_pos c1).symm.trans hF
    refine a_loc [(0, .ref (za Z 60 0)), (1, .int a1), (2, .int r1)] [1, 2, 0] rfl ?_
    exact w_X11_readRule_25 (l := l) hZ   r1  _ hF
  · replace hF := (if_neg c1).symm.trans hF
    refine a_aload_n dX11_readRule_11 1 rfl rfl ?_
    refine a_getI hZ.1 (s1 60 0 29) (hZ.2 60 0 (by decide) (by decide) Nat.one_pos) fl_X11_280 rfl rfl dX11_readRule_12 ?_
    refine a_bipush (v := (30 : Int32)) dX11_readRule_15 (by decide) ?_
    refine a_icmp_ne 25 dX11_readRule_17 (by decide) (fun c2 => ?_) (fun c2 => ?_)
    · replace hF := (if_neg c2).symm.trans hF
      refine a_loc [(0, .ref (za Z 60 0)), (1, .int a1), (2, .int r1)] [1, 2, 0] rfl ?_
      exact w_X11_readRule_25 (l := l) hZ   r1  _ hF
    · replace hF := (if_pos c2).symm.trans hF
      refine a_aload_n dX11_readRule_20 1 rfl rfl ?_
      refine a_iconst (v := (3 : Int32)) dX11_readRule_21 (by decide) ?_
      obtain ⟨r22, s22, e22, hF⟩ := bd_some hF
      refine a_invV hZ.1 (As := [.int (3 : Int32)]) (rest := []) (hZ.2 60 0 (by decide) (by decide) Nat.one_pos) lk_X11_252 ⟨⟨by decide, by decide⟩, by decide, by decide⟩ rfl (Nat.le_of_ble_eq_true rfl) dX11_readRule_22 (m_X11_bad hZ  e22) ?_
      show AW Z l iX11_readRule (Pq (rU R)) 0 0 25 [(2, .int r1), (0, .ref (za Z 60 0)), (1, .int a1)] [] s22
      refine a_loc [(0, .ref (za Z 60 0)), (1, .int a1), (2, .int r1)] [1, 2, 0] rfl ?_
      exact w_X11_readRule_25 (l := l) hZ   r1  _ hF
theorem m_X11_readRule {Z : ZE} {l : Launch} (hZ : OkM Z) {a1 : Int32}  {s : St} {R : Unit × St} (hF : F_X11_readRule (zg Z) a1 s = some R) : Sp Z l yX11_readRule iX11_readRule [.ref (za Z 60 0), .int a1] s (rU R) :=
  Sp.of (by decide) rfl (Nat.le_of_ble_eq_true rfl) (w_X11_readRule hZ  s hF)
-- X11_lists
def F_X11_lists_156 (g : Nat × Nat)    (s : St) : Option (Int32 × St) := (if (s 60 0 38) ≤ 0 then (some ((s 60 0 29), (up s 60 0 24 (s 60 0 29)))) else (some (((-1000100) - (s 60 0 39)), (up s 60 0 32 (s 60 0 38)))))
set_option maxRecDepth 100000 in
set_option maxHeartbeats 4000000 in
theorem w_X11_lists_156 {Z : ZE} {l : Launch} (hZ : OkM Z)   {R : Int32 × St}    (s : St) (hF : F_X11_lists_156 (zg Z)   s = some R) : AW Z l iX11_lists (Pq (rI R)) 0 0 156 [(0, .ref (za Z 60 0))] [] s := by
  unfold F_X11_lists_156 at hF
  refine a_aload_n dX11_lists_156 0 rfl rfl ?_
  refine a_getI hZ.1 (s 60 0 38) (hZ.2 60 0 (by decide) (by decide) Nat.one_pos) fl_X11_246 rfl rfl dX11_lists_157 ?_
  refine a_if_le 180 dX11_lists_160 (by decide) (fun c1 => ?_) (fun c1 => ?_)
  · replace hF := (if_pos c1).symm.trans hF
    refine a_aload_n dX11_lists_180 0 rfl rfl ?_
    refine a_aload_n dX11_lists_181 0 rfl rfl ?_
    refine a_getI hZ.1 (s 60 0 29) (hZ.2 60 0 (by decide) (by decide) Nat.one_pos) fl_X11_280 rfl rfl dX11_lists_182 ?_
    refine a_put hZ.1 (hZ.2 60 0 (by decide) (by decide) Nat.one_pos) fl_X11_286 rfl rfl rfl dX11_lists_185 ?_
    refine a_aload_n dX11_lists_188 0 rfl rfl ?_
    refine a_getI hZ.1 (s 60 0 29) (hZ.2 60 0 (by decide) (by decide) Nat.one_pos) fl_X11_286 rfl (by simp [up]) dX11_lists_189 ?_
    replace hF := Option.some.inj hF
    subst hF
    exact a_iret rfl (Nat.zero_le _) (Nat.zero_le _) dX11_lists_192 ⟨rfl, rfl⟩
  · replace hF := (if_neg c1).symm.trans hF
    refine a_aload_n dX11_lists_163 0 rfl rfl ?_
    refine a_aload_n dX11_lists_164 0 rfl rfl ?_
    refine a_getI hZ.1 (s 60 0 38) (hZ.2 60 0 (by decide) (by decide) Nat.one_pos) fl_X11_246 rfl rfl dX11_lists_165 ?_
    refine a_put hZ.1 (hZ.2 60 0 (by decide) (by decide) Nat.one_pos) fl_X11_294 rfl rfl rfl dX11_lists_168 ?_
    refine a_ldcw (v := (-1000100)) kw_1306 dX11_lists_171 ?_
    refine a_aload_n dX11_lists_174 0 rfl rfl ?_
    refine a_getI hZ.1 (s 60 0 39) (hZ.2 60 0 (by decide) (by decide) Nat.one_pos) fl_X11_249 rfl (by simp [up]) dX11_lists_175 ?_
    refine a_isub dX11_lists_178 ?_
    replace hF := Option.some.inj hF
    subst hF
    exact a_iret rfl (Nat.zero_le _) (Nat.zero_le _) dX11_lists_179 ⟨rfl, rfl⟩
def F_X11_lists_153 (g : Nat × Nat)  (h40_ : St → Option (Int32 × St)) (h156_ : St → Option (Int32 × St))  (s : St) : Option (Int32 × St) := (h40_  s)
set_option maxRecDepth 100000 in
set_option maxHeartbeats 4000000 in
theorem w_X11_lists_153 {Z : ZE} {l : Launch} (hZ : OkM Z)   {R : Int32 × St} (h40_ : St → Option (Int32 × St)) (w40_ : ∀   (s : St), h40_  s = some R → AW Z l iX11_lists (Pq (rI R)) 0 0 40 [(0, .ref (za Z 60 0))] [] s) (h156_ : St → Option (Int32 × St)) (w156_ : ∀   (s : St), h156_  s = some R → AW Z l iX11_lists (Pq (rI R)) 0 0 156 [(0, .ref (za Z 60 0))] [] s)   (s : St) (hF : F_X11_lists_153 (zg Z)  h40_ h156_  s = some R) : AW Z l iX11_lists (Pq (rI R)) 0 0 153 [(0, .ref (za Z 60 0))] [] s := by
  unfold F_X11_lists_153 at hF
  refine a_goto 40 dX11_lists_153 (by decide) ?_
  exact w40_   _ hF
def F_X11_lists_150 (g : Nat × Nat)  (h40_ : St → Option (Int32 × St)) (h156_ : St → Option (Int32 × St)) (x1 : Int32) (s : St) : Option (Int32 × St) := (bd (F_X11_must g x1 s) (fun r150 s150 => (F_X11_lists_153 g  h40_ h156_  s150)))
set_option maxRecDepth 100000 in
set_option maxHeartbeats 4000000 in
theorem w_X11_lists_150 {Z : ZE} {l : Launch} (hZ : OkM Z)   {R : Int32 × St} (h40_ : St → Option (Int32 × St)) (w40_ : ∀   (s : St), h40_  s = some R → AW Z l iX11_lists (Pq (rI R)) 0 0 40 [(0, .ref (za Z 60 0))] [] s) (h156_ : St → Option (Int32 × St)) (w156_ : ∀   (s : St), h156_  s = some R → AW Z l iX11_lists (Pq (rI R)) 0 0 156 [(0, .ref (za Z 60 0))] [] s) (x1 : Int32)  (s : St) (hF : F_X11_lists_150 (zg Z)  h40_ h156_ x1 s = some R) : AW Z l iX11_lists (Pq (rI R)) 0 0 150 [(0, .ref (za Z 60 0))] [.int x1, .ref (za Z 60 0)] s := by
  unfold F_X11_lists_150 at hF
  obtain ⟨r150, s150, e150, hF⟩ := bd_some hF
  refine a_invV hZ.1 (As := [.int x1]) (rest := []) (hZ.2 60 0 (by decide) (by decide) Nat.one_pos) lk_X11_258 ⟨⟨by decide, by decide⟩, by decide, by decide⟩ rfl (Nat.le_of_ble_eq_true rfl) dX11_lists_150 (m_X11_must hZ  e150) ?_
  show AW Z l iX11_lists (Pq (rI R)) 0 0 153 [(0, .ref (za Z 60 0))] [] s150
  exact w_X11_lists_153 (l := l) hZ  h40_ w40_ h156_ w156_   _ hF
def F_X11_lists_129 (g : Nat × Nat)  (h40_ : St → Option (Int32 × St)) (h156_ : St → Option (Int32 × St))  (s : St) : Option (Int32 × St) := (if (s 60 0 38) = 0 then (if (s 60 0 35) = (4 : Int32) then (F_X11_lists_150 g  h40_ h156_ (1 : Int32) s) else (F_X11_lists_150 g  h40_ h156_ (0 : Int32) s)) else (F_X11_lists_153 g  h40_ h156_  s))
set_option maxRecDepth 100000 in
set_option maxHeartbeats 4000000 in
theorem w_X11_lists_129 {Z : ZE} {l : Launch} (hZ : OkM Z)   {R : Int32 × St} (h40_ : St → Option (Int32 × St)) (w40_ : ∀   (s : St), h40_  s = some R → AW Z l iX11_lists (Pq (rI R)) 0 0 40 [(0, .ref (za Z 60 0))] [] s) (h156_ : St → Option (Int32 × St)) (w156_ : ∀   (s : St), h156_  s = some R → AW Z l iX11_lists (Pq (rI R)) 0 0 156 [(0, .ref (za Z 60 0))] [] s)   (s : St) (hF : F_X11_lists_129 (zg Z)  h40_ h156_  s = some R) : AW Z l iX11_lists (Pq (rI R)) 0 0 129 [(0, .ref (za Z 60 0))] [] s := by
  unfold F_X11_lists_129 at hF
  refine a_aload_n dX11_lists_129 0 rfl rfl ?_
  refine a_getI hZ.1 (s 60 0 38) (hZ.2 60 0 (by decide) (by decide) Nat.one_pos) fl_X11_246 rfl rfl dX11_lists_130 ?_
  refine a_if_ne 153 dX11_lists_133 (by decide) (fun c1 => ?_) (fun c1 => ?_)
  · replace hF := (if_neg c1).symm.trans hF
    exact w_X11_lists_153 (l := l) hZ  h40_ w40_ h156_ w156_   _ hF
  · replace hF := (if_pos c1).symm.trans hF
    refine a_aload_n dX11_lists_136 0 rfl rfl ?_
    refine a_aload_n dX11_lists_137 0 rfl rfl ?_
    refine a_getI hZ.1 (s 60 0 35) (hZ.2 60 0 (by decide) (by decide) Nat.one_pos) fl_X11_234 rfl rfl dX11_lists_138 ?_
    refine a_iconst (v := (4 : Int32)) dX11_lists_141 (by decide) ?_
    refine a_icmp_ne 149 dX11_lists_142 (by decide) (fun c2 => ?_) (fun c2 => ?_)
    · replace hF := (if_neg c2).symm.trans hF
      refine a_iconst (v := (0 : Int32)) dX11_lists_149 (by decide) ?_
      exact w_X11_lists_150 (l := l) hZ  h40_ w40_ h156_ w156_ (0 : Int32)  _ hF
    · replace hF := (if_pos c2).symm.trans hF
      refine a_iconst (v := (1 : Int32)) dX11_lists_145 (by decide) ?_
      refine a_goto 150 dX11_lists_146 (by decide) ?_
      exact w_X11_lists_150 (l := l) hZ  h40_ w40_ h156_ w156_ (1 : Int32)  _ hF
def F_X11_lists_125 (g : Nat × Nat)  (h95_ : Int32 → Int32 → St → Option (Int32 × St)) (h129_ : St → Option (Int32 × St)) (v1 : Int32) (x0 : Int32) (s : St) : Option (Int32 × St) := (h95_ v1 x0 s)
set_option maxRecDepth 100000 in
set_option maxHeartbeats 4000000 in
theorem w_X11_lists_125 {Z : ZE} {l : Launch} (hZ : OkM Z)   {R : Int32 × St} (h95_ : Int32 → Int32 → St → Option (Int32 × St)) (w95_ : ∀ (v1 : Int32) (v2 : Int32)  (s : St), h95_ v1 v2 s = some R → AW Z l iX11_lists (Pq (rI R)) 0 0 95 [(0, .ref (za Z 60 0)), (1, .int v1), (2, .int v2)] [] s) (h129_ : St → Option (Int32 × St)) (w129_ : ∀   (s : St), h129_  s = some R → AW Z l iX11_lists (Pq (rI R)) 0 0 129 [(0, .ref (za Z 60 0))] [] s) (v1 : Int32) (x0 : Int32)  (s : St) (hF : F_X11_lists_125 (zg Z)  h95_ h129_ v1 x0 s = some R) : AW Z l iX11_lists (Pq (rI R)) 0 0 125 [(0, .ref (za Z 60 0)), (1, .int v1)] [.int x0] s := by
  unfold F_X11_lists_125 at hF
  refine a_istore_n [(2, .int x0), (0, .ref (za Z 60 0)), (1, .int v1)] dX11_lists_125 rfl (by decide) rfl ?_
  refine a_goto 95 dX11_lists_126 (by decide) ?_
  refine a_loc [(0, .ref (za Z 60 0)), (1, .int v1), (2, .int x0)] [1, 2, 0] rfl ?_
  exact w95_ v1 x0  _ hF
def F_X11_lists_124 (g : Nat × Nat)  (h95_ : Int32 → Int32 → St → Option (Int32 × St)) (h129_ : St → Option (Int32 × St)) (v1 : Int32) (s : St) : Option (Int32 × St) := (F_X11_lists_125 g  h95_ h129_ v1 (0 : Int32) s)
set_option maxRecDepth 100000 in
set_option maxHeartbeats 4000000 in
theorem w_X11_lists_124 {Z : ZE} {l : Launch} (hZ : OkM Z)   {R : Int32 × St} (h95_ : Int32 → Int32 → St → Option (Int32 × St)) (w95_ : ∀ (v1 : Int32) (v2 : Int32)  (s : St), h95_ v1 v2 s = some R → AW Z l iX11_lists (Pq (rI R)) 0 0 95 [(0, .ref (za Z 60 0)), (1, .int v1), (2, .int v2)] [] s) (h129_ : St → Option (Int32 × St)) (w129_ : ∀   (s : St), h129_  s = some R → AW Z l iX11_lists (Pq (rI R)) 0 0 129 [(0, .ref (za Z 60 0))] [] s) (v1 : Int32)  (s : St) (hF : F_X11_lists_124 (zg Z)  h95_ h129_ v1 s = some R) : AW Z l iX11_lists (Pq (rI R)) 0 0 124 [(0, .ref (za Z 60 0)), (1, .int v1)] [] s := by
  unfold F_X11_lists_124 at hF
  refine a_iconst (v := (0 : Int32)) dX11_lists_124 (by decide) ?_
  exact w_X11_lists_125 (l := l) hZ  h95_ w95_ h129_ w129_ v1 (0 : Int32)  _ hF
def F_X11_lists_95 (g : Nat × Nat)  (h129_ : St → Option (Int32 × St)) : Nat → Int32 → Int32 → St → Option (Int32 × St)
  | 0, _, _, _ => none
  | n_ + 1, v1, v2, s => (if v2 = 0 then (h129_  s) else (bd (F_X11_readRule g v1 s) (fun r101 s101 => (if (s101 60 0 38) = 0 then (bd (F_X11_ruleOfWord g  s101) (fun r112 s112 => (if r112 = (-1000000) then (F_X11_lists_124 g  (F_X11_lists_95 g  h129_ n_) h129_ v1 s112) else (F_X11_lists_125 g  (F_X11_lists_95 g  h129_ n_) h129_ v1 (1 : Int32) s112)))) else (F_X11_lists_124 g  (F_X11_lists_95 g  h129_ n_) h129_ v1 s101)))))
set_option maxRecDepth 100000 in
set_option maxHeartbeats 4000000 in
theorem w_X11_lists_95 {Z : ZE} {l : Launch} (hZ : OkM Z)   {R : Int32 × St} (h129_ : St → Option (Int32 × St)) (w129_ : ∀   (s : St), h129_  s = some R → AW Z l iX11_lists (Pq (rI R)) 0 0 129 [(0, .ref (za Z 60 0))] [] s) : ∀ (n_ : Nat) (v1 : Int32) (v2 : Int32)  (s : St), F_X11_lists_95 (zg Z)  h129_ n_ v1 v2 s = some R → AW Z l iX11_lists (Pq (rI R)) 0 0 95 [(0, .ref (za Z 60 0)), (1, .int v1), (2, .int v2)] [] s := by
  intro n_
  induction n_ with
  | zero =>
    intro v1 v2 s hF
    exact absurd hF (by rw [F_X11_lists_95]; exact fun q => by cases q)
  | succ n_ w95_ =>
    intro v1 v2 s hF
    rw [F_X11_lists_95] at hF
    refine a_iload_n dX11_lists_95 2 rfl rfl ?_
    refine a_if_eq 129 dX11_lists_96 (by decide) (fun c1 => ?_) (fun c1 => ?_)
    · replace hF := (if_pos c1).symm.trans hF
      refine a_loc [(0, .ref (za Z 60 0))] [0] rfl ?_
      exact w129_   _ hF
    · replace hF := (if_neg c1).symm.trans hF
      refine a_aload_n dX11_lists_99 0 rfl rfl ?_
      refine a_iload_n dX11_lists_100 1 rfl rfl ?_
      obtain ⟨r101, s101, e101, hF⟩ := bd_some hF
      refine a_invV hZ.1 (As := [.int v1]) (rest := []) (hZ.2 60 0 (by decide) (by decide) Nat.one_pos) lk_X11_291 ⟨⟨by decide, by decide⟩, by decide, by decide⟩ rfl (Nat.le_of_ble_eq_true rfl) dX11_lists_101 (m_X11_readRule hZ  e101) ?_
      show AW Z l iX11_lists (Pq (rI R)) 0 0 104 [(0, .ref (za Z 60 0)), (1, .int v1), (2, .int v2)] [] s101
      refine a_aload_n dX11_lists_104 0 rfl rfl ?_
      refine a_getI hZ.1 (s101 60 0 38) (hZ.2 60 0 (by decide) (by decide) Nat.one_pos) fl_X11_246 rfl rfl dX11_lists_105 ?_
      refine a_if_ne 124 dX11_lists_108 (by decide) (fun c2 => ?_) (fun c2 => ?_)
      · replace hF := (if_neg c2).symm.trans hF
        refine a_loc [(0, .ref (za Z 60 0)), (1, .int v1)] [0, 1] rfl ?_
        exact w_X11_lists_124 (l := l) hZ  (F_X11_lists_95 (zg Z)  h129_ n_) w95_ h129_ w129_ v1  _ hF
      · replace hF := (if_pos c2).symm.trans hF
        refine a_aload_n dX11_lists_111 0 rfl rfl ?_
        obtain ⟨r112, s112, e112, hF⟩ := bd_some hF
        refine a_invV hZ.1 (As := []) (rest := []) (hZ.2 60 0 (by decide) (by decide) Nat.one_pos) lk_X11_276 ⟨⟨by decide, by decide⟩, by decide, by decide⟩ rfl (Nat.le_of_ble_eq_true rfl) dX11_lists_112 (m_X11_ruleOfWord hZ  e112) ?_
        show AW Z l iX11_lists (Pq (rI R)) 0 0 115 [(0, .ref (za Z 60 0)), (1, .int v1), (2, .int v2)] [.int r112] s112
        refine a_ldc (v := (-1000000)) kw_951 dX11_lists_115 ?_
        refine a_icmp_eq 124 dX11_lists_117 (by decide) (fun c3 => ?_) (fun c3 => ?_)
        · replace hF := (if_pos c3).symm.trans hF
          refine a_loc [(0, .ref (za Z 60 0)), (1, .int v1)] [0, 1] rfl ?_
          exact w_X11_lists_124 (l := l) hZ  (F_X11_lists_95 (zg Z)  h129_ n_) w95_ h129_ w129_ v1  _ hF
        · replace hF := (if_neg c3).symm.trans hF
          refine a_iconst (v := (1 : Int32)) dX11_lists_120 (by decide) ?_
          refine a_goto 125 dX11_lists_121 (by decide) ?_
          refine a_loc [(0, .ref (za Z 60 0)), (1, .int v1)] [0, 1] rfl ?_
          exact w_X11_lists_125 (l := l) hZ  (F_X11_lists_95 (zg Z)  h129_ n_) w95_ h129_ w129_ v1 (1 : Int32)  _ hF
def F_X11_lists_94 (g : Nat × Nat)  (h40_ : St → Option (Int32 × St)) (h156_ : St → Option (Int32 × St)) (v1 : Int32) (x0 : Int32) (s : St) : Option (Int32 × St) := ((F_X11_lists_95 g  (F_X11_lists_129 g  h40_ h156_) fu) v1 x0 s)
set_option maxRecDepth 100000 in
set_option maxHeartbeats 4000000 in
theorem w_X11_lists_94 {Z : ZE} {l : Launch} (hZ : OkM Z)   {R : Int32 × St} (h40_ : St → Option (Int32 × St)) (w40_ : ∀   (s : St), h40_  s = some R → AW Z l iX11_lists (Pq (rI R)) 0 0 40 [(0, .ref (za Z 60 0))] [] s) (h156_ : St → Option (Int32 × St)) (w156_ : ∀   (s : St), h156_  s = some R → AW Z l iX11_lists (Pq (rI R)) 0 0 156 [(0, .ref (za Z 60 0))] [] s) (v1 : Int32) (x0 : Int32)  (s : St) (hF : F_X11_lists_94 (zg Z)  h40_ h156_ v1 x0 s = some R) : AW Z l iX11_lists (Pq (rI R)) 0 0 94 [(0, .ref (za Z 60 0)), (1, .int v1)] [.int x0] s := by
  unfold F_X11_lists_94 at hF
  refine a_istore_n [(2, .int x0), (0, .ref (za Z 60 0)), (1, .int v1)] dX11_lists_94 rfl (by decide) rfl ?_
  refine a_loc [(0, .ref (za Z 60 0)), (1, .int v1), (2, .int x0)] [1, 2, 0] rfl ?_
  exact w_X11_lists_95 (l := l) hZ  (F_X11_lists_129 (zg Z)  h40_ h156_) (w_X11_lists_129 (l := l) hZ  h40_ w40_ h156_ w156_) fu v1 x0  _ hF
def F_X11_lists_72 (g : Nat × Nat)  (h40_ : St → Option (Int32 × St)) (h156_ : St → Option (Int32 × St)) (x1 : Int32) (s : St) : Option (Int32 × St) := (bd (F_X11_must g x1 s) (fun r72 s72 => (bd (F_X11_numberTo g (99 : Int32) s72) (fun r78 s78 => (if (s78 60 0 38) = 0 then (F_X11_lists_94 g  h40_ h156_ r78 (1 : Int32) s78) else (F_X11_lists_94 g  h40_ h156_ r78 (0 : Int32) s78))))))
set_option maxRecDepth 100000 in
set_option maxHeartbeats 4000000 in
theorem w_X11_lists_72 {Z : ZE} {l : Launch} (hZ : OkM Z)   {R : Int32 × St} (h40_ : St → Option (Int32 × St)) (w40_ : ∀   (s : St), h40_  s = some R → AW Z l iX11_lists (Pq (rI R)) 0 0 40 [(0, .ref (za Z 60 0))] [] s) (h156_ : St → Option (Int32 × St)) (w156_ : ∀   (s : St), h156_  s = some R → AW Z l iX11_lists (Pq (rI R)) 0 0 156 [(0, .ref (za Z 60 0))] [] s) (x1 : Int32)  (s : St) (hF : F_X11_lists_72 (zg Z)  h40_ h156_ x1 s = some R) : AW Z l iX11_lists (Pq (rI R)) 0 0 72 [(0, .ref (za Z 60 0))] [.int x1, .ref (za Z 60 0)] s := by
  unfold F_X11_lists_72 at hF
  obtain ⟨r72, s72, e72, hF⟩ := bd_some hF
  refine a_invV hZ.1 (As := [.int x1]) (rest := []) (hZ.2 60 0 (by decide) (by decide) Nat.one_pos) lk_X11_258 ⟨⟨by decide, by decide⟩, by decide, by decide⟩ rfl (Nat.le_of_ble_eq_true rfl) dX11_lists_72 (m_X11_must hZ  e72) ?_
  show AW Z l iX11_lists (Pq (rI R)) 0 0 75 [(0, .ref (za Z 60 0))] [] s72
  refine a_aload_n dX11_lists_75 0 rfl rfl ?_
  refine a_bipush (v := (99 : Int32)) dX11_lists_76 (by decide) ?_
  obtain ⟨r78, s78, e78, hF⟩ := bd_some hF
  refine a_invV hZ.1 (As := [.int (99 : Int32)]) (rest := []) (hZ.2 60 0 (by decide) (by decide) Nat.one_pos) lk_X11_283 ⟨⟨by decide, by decide⟩, by decide, by decide⟩ rfl (Nat.le_of_ble_eq_true rfl) dX11_lists_78 (m_X11_numberTo hZ  e78) ?_
  show AW Z l iX11_lists (Pq (rI R)) 0 0 81 [(0, .ref (za Z 60 0))] [.int r78] s78
  refine a_istore_n [(1, .int r78), (0, .ref (za Z 60 0))] dX11_lists_81 rfl (by decide) rfl ?_
  refine a_aload_n dX11_lists_82 1 rfl rfl ?_
  refine a_getI hZ.1 (s78 60 0 38) (hZ.2 60 0 (by decide) (by decide) Nat.one_pos) fl_X11_246 rfl rfl dX11_lists_83 ?_
  refine a_if_ne 93 dX11_lists_86 (by decide) (fun c1 => ?_) (fun c1 => ?_)
  · replace hF := (if_neg c1).symm.trans hF
    refine a_iconst (v := (0 : Int32)) dX11_lists_93 (by decide) ?_
    refine a_loc [(0, .ref (za Z 60 0)), (1, .int r78)] [1, 0] rfl ?_
    exact w_X11_lists_94 (l := l) hZ  h40_ w40_ h156_ w156_ r78 (0 : Int32)  _ hF
  · replace hF := (if_pos c1).symm.trans hF
    refine a_iconst (v := (1 : Int32)) dX11_lists_89 (by decide) ?_
    refine a_goto 94 dX11_lists_90 (by decide) ?_
    refine a_loc [(0, .ref (za Z 60 0)), (1, .int r78)] [1, 0] rfl ?_
    exact w_X11_lists_94 (l := l) hZ  h40_ w40_ h156_ w156_ r78 (1 : Int32)  _ hF
def F_X11_lists_40 (g : Nat × Nat)  (h156_ : St → Option (Int32 × St)) : Nat → St → Option (Int32 × St)
  | 0, _ => none
  | n_ + 1, s => (if (s 60 0 38) = 0 then (if (s 60 0 35) = (1 : Int32) then (h156_  s) else (bd (F_X11_word g  s) (fun r57 s57 => (if (lg_cmp r57 (1718775661 : Int64)) = 0 then (F_X11_lists_72 g  (F_X11_lists_40 g  h156_ n_) h156_ (1 : Int32) s57) else (F_X11_lists_72 g  (F_X11_lists_40 g  h156_ n_) h156_ (0 : Int32) s57))))) else (h156_  s))
set_option maxRecDepth 100000 in
set_option maxHeartbeats 4000000 in
theorem w_X11_lists_40 {Z : ZE} {l : Launch} (hZ : OkM Z)   {R : Int32 × St} (h156_ : St → Option (Int32 × St)) (w156_ : ∀   (s : St), h156_  s = some R → AW Z l iX11_lists (Pq (rI R)) 0 0 156 [(0, .ref (za Z 60 0))] [] s) : ∀ (n_ : Nat)   (s : St), F_X11_lists_40 (zg Z)  h156_ n_  s = some R → AW Z l iX11_lists (Pq (rI R)) 0 0 40 [(0, .ref (za Z 60 0))] [] s := by
  intro n_
  induction n_ with
  | zero =>
    intro  s hF
    exact absurd hF (by rw [F_X11_lists_40]; exact fun q => by cases q)
  | succ n_ w40_ =>
    intro  s hF
    rw [F_X11_lists_40] at hF
    refine a_aload_n dX11_lists_40 0 rfl rfl ?_
    refine a_getI hZ.1 (s 60 0 38) (hZ.2 60 0 (by decide) (by decide) Nat.one_pos) fl_X11_246 rfl rfl dX11_lists_41 ?_
    refine a_if_ne 156 dX11_lists_44 (by decide) (fun c1 => ?_) (fun c1 => ?_)
    · replace hF := (if_neg c1).symm.trans hF
      exact w156_   _ hF
    · replace hF := (if_pos c1).symm.trans hF
      refine a_aload_n dX11_lists_47 0 rfl rfl ?_
      refine a_getI hZ.1 (s 60 0 35) (hZ.2 60 0 (by decide) (by decide) Nat.one_pos) fl_X11_234 rfl rfl dX11_lists_48 ?_
      refine a_iconst (v := (1 : Int32)) dX11_lists_51 (by decide) ?_
      refine a_icmp_eq 156 dX11_lists_52 (by decide) (fun c2 => ?_) (fun c2 => ?_)
      · replace hF := (if_pos c2).symm.trans hF
        exact w156_   _ hF
      · replace hF := (if_neg c2).symm.trans hF
        refine a_aload_n dX11_lists_55 0 rfl rfl ?_
        refine a_aload_n dX11_lists_56 0 rfl rfl ?_
        obtain ⟨r57, s57, e57, hF⟩ := bd_some hF
        refine a_invV hZ.1 (As := []) (rest := [.ref (za Z 60 0)]) (hZ.2 60 0 (by decide) (by decide) Nat.one_pos) lk_X11_262 ⟨⟨by decide, by decide⟩, by decide, by decide⟩ rfl (Nat.le_of_ble_eq_true rfl) dX11_lists_57 (m_X11_word hZ  e57) ?_
        show AW Z l iX11_lists (Pq (rI R)) 0 0 60 [(0, .ref (za Z 60 0))] [.long r57, .ref (za Z 60 0)] s57
        refine a_ldc2 (v := (1718775661 : Int64)) kw_1280 dX11_lists_60 ?_
        refine a_lcmp dX11_lists_63 ?_
        refine a_if_ne 71 dX11_lists_64 (by decide) (fun c3 => ?_) (fun c3 => ?_)
        · replace hF := (if_neg c3).symm.trans hF
          refine a_iconst (v := (0 : Int32)) dX11_lists_71 (by decide) ?_
          exact w_X11_lists_72 (l := l) hZ  (F_X11_lists_40 (zg Z)  h156_ n_) w40_ h156_ w156_ (0 : Int32)  _ hF
        · replace hF := (if_pos c3).symm.trans hF
          refine a_iconst (v := (1 : Int32)) dX11_lists_67 (by decide) ?_
          refine a_goto 72 dX11_lists_68 (by decide) ?_
          exact w_X11_lists_72 (l := l) hZ  (F_X11_lists_40 (zg Z)  h156_ n_) w40_ h156_ w156_ (1 : Int32)  _ hF
def F_X11_lists (g : Nat × Nat)    (s : St) : Option (Int32 × St) := (bd (F_X11_next g  (up (up (up (up (up (up s 60 0 0 (0 : Int32)) 60 0 33 (s 60 0 31)) 60 0 31 (0 : Int32)) 60 0 34 (0 : Int32)) 60 0 38 (0 : Int32)) 60 0 29 (s 60 0 24))) (fun r37 s37 => ((F_X11_lists_40 g  (F_X11_lists_156 g  ) fu)  s37)))
set_option maxRecDepth 100000 in
set_option maxHeartbeats 4000000 in
theorem w_X11_lists {Z : ZE} {l : Launch} (hZ : OkM Z)   {R : Int32 × St}    (s : St) (hF : F_X11_lists (zg Z)   s = some R) : AW Z l iX11_lists (Pq (rI R)) 0 0 0 [(0, .ref (za Z 60 0))] [] s := by
  unfold F_X11_lists at hF
  refine a_aload_n dX11_lists_0 0 rfl rfl ?_
  refine a_iconst (v := (0 : Int32)) dX11_lists_1 (by decide) ?_
  refine a_put hZ.1 (hZ.2 60 0 (by decide) (by decide) Nat.one_pos) fl_X11_1 rfl rfl rfl dX11_lists_2 ?_
  refine a_aload_n dX11_lists_5 0 rfl rfl ?_
  refine a_aload_n dX11_lists_6 0 rfl rfl ?_
  refine a_getI hZ.1 (s 60 0 31) (hZ.2 60 0 (by decide) (by decide) Nat.one_pos) fl_X11_217 rfl (by simp [up]) dX11_lists_7 ?_
  refine a_put hZ.1 (hZ.2 60 0 (by decide) (by decide) Nat.one_pos) fl_X11_222 rfl rfl rfl dX11_lists_10 ?_
  refine a_aload_n dX11_lists_13 0 rfl rfl ?_
  refine a_iconst (v := (0 : Int32)) dX11_lists_14 (by decide) ?_
  refine a_put hZ.1 (hZ.2 60 0 (by decide) (by decide) Nat.one_pos) fl_X11_217 rfl rfl rfl dX11_lists_15 ?_
  refine a_aload_n dX11_lists_18 0 rfl rfl ?_
  refine a_iconst (v := (0 : Int32)) dX11_lists_19 (by decide) ?_
  refine a_put hZ.1 (hZ.2 60 0 (by decide) (by decide) Nat.one_pos) fl_X11_225 rfl rfl rfl dX11_lists_20 ?_
  refine a_aload_n dX11_lists_23 0 rfl rfl ?_
  refine a_iconst (v := (0 : Int32)) dX11_lists_24 (by decide) ?_
  refine a_put hZ.1 (hZ.2 60 0 (by decide) (by decide) Nat.one_pos) fl_X11_246 rfl rfl rfl dX11_lists_25 ?_
  refine a_aload_n dX11_lists_28 0 rfl rfl ?_
  refine a_aload_n dX11_lists_29 0 rfl rfl ?_
  refine a_getI hZ.1 (s 60 0 24) (hZ.2 60 0 (by decide) (by decide) Nat.one_pos) fl_X11_286 rfl (by simp [up]) dX11_lists_30 ?_
  refine a_put hZ.1 (hZ.2 60 0 (by decide) (by decide) Nat.one_pos) fl_X11_280 rfl rfl rfl dX11_lists_33 ?_
  refine a_aload_n dX11_lists_36 0 rfl rfl ?_
  obtain ⟨r37, s37, e37, hF⟩ := bd_some hF
  refine a_invV hZ.1 (As := []) (rest := []) (hZ.2 60 0 (by decide) (by decide) Nat.one_pos) lk_X11_255 ⟨⟨by decide, by decide⟩, by decide, by decide⟩ rfl (Nat.le_of_ble_eq_true rfl) dX11_lists_37 (m_X11_next hZ  e37) ?_
  show AW Z l iX11_lists (Pq (rI R)) 0 0 40 [(0, .ref (za Z 60 0))] [] s37
  exact w_X11_lists_40 (l := l) hZ  (F_X11_lists_156 (zg Z)  ) (w_X11_lists_156 (l := l) hZ  ) fu   _ hF
theorem m_X11_lists {Z : ZE} {l : Launch} (hZ : OkM Z)   {s : St} {R : Int32 × St} (hF : F_X11_lists (zg Z)  s = some R) : Sp Z l yX11_lists iX11_lists [.ref (za Z 60 0)] s (rI R) :=
  Sp.of (by decide) rfl (Nat.le_of_ble_eq_true rfl) (w_X11_lists hZ  s hF)
-- X11_sell
def F_X11_sell (g : Nat × Nat) (a1 : Int32) (a2 : Int32)   (s : St) : Option (Unit × St) := (gd (inb (((11 : Int32) * a1) + (3 : Int32)) 132) (if 0 ≤ (s 84 0 (((11 : Int32) * a1) + (3 : Int32)).toNatClampNeg) then (some ((), s)) else (gd (inb (((11 : Int32) * a1) + (3 : Int32)) 132) (gd (inb ((((11 : Int32) * a1) + (5 : Int32)) + a2) 132) (gd (inb (((11 : Int32) * a1) + (3 : Int32)) 132) (gd (inb ((((11 : Int32) * a1) + (5 : Int32)) + a2) 132) (some ((), (up (up s 84 0 (((11 : Int32) * a1) + (3 : Int32)).toNatClampNeg ((s 84 0 (((11 : Int32) * a1) + (3 : Int32)).toNatClampNeg) + (s 84 0 ((((11 : Int32) * a1) + (5 : Int32)) + a2).toNatClampNeg))) 84 0 ((((11 : Int32) * a1) + (5 : Int32)) + a2).toNatClampNeg (0 : Int32))))))))))
set_option maxRecDepth 100000 in
set_option maxHeartbeats 4000000 in
theorem w_X11_sell {Z : ZE} {l : Launch} (hZ : OkM Z) {a1 : Int32} {a2 : Int32}  {R : Unit × St}    (s : St) (hF : F_X11_sell (zg Z) a1 a2  s = some R) : AW Z l iX11_sell (Pq (rU R)) 0 0 0 [(0, .ref (za Z 60 0)), (1, .int a1), (2, .int a2)] [] s := by
  unfold F_X11_sell at hF
  refine a_bipush (v := (11 : Int32)) dX11_sell_0 (by decide) ?_
  refine a_iload_n dX11_sell_2 1 rfl rfl ?_
  refine a_imul dX11_sell_3 ?_
  refine a_istore_n [(3, .int ((11 : Int32) * a1)), (0, .ref (za Z 60 0)), (1, .int a1), (2, .int a2)] dX11_sell_4 rfl (by decide) rfl ?_
  refine a_aload_n dX11_sell_5 1 rfl rfl ?_
  refine a_getR hZ.1 (hZ.2 60 0 (by decide) (by decide) Nat.one_pos) fl_X11_91 rfl 0 rfl dX11_sell_6 ?_
  refine a_iload_n dX11_sell_9 0 rfl rfl ?_
  refine a_iconst (v := (3 : Int32)) dX11_sell_10 (by decide) ?_
  refine a_iadd dX11_sell_11 ?_
  obtain ⟨b1, hF⟩ := gd_some hF
  refine a_iald hZ.1 (s 84 0 (((11 : Int32) * a1) + (3 : Int32)).toNatClampNeg) (hZ.2 84 0 (by decide) (by decide) Nat.one_pos) rfl rfl (inb_vp b1) rfl dX11_sell_12 ?_
  refine a_if_ge 48 dX11_sell_13 (by decide) (fun c2 => ?_) (fun c2 => ?_)
  · replace hF := (if_pos c2).symm.trans hF
    replace hF := Option.some.inj hF
    subst hF
    exact a_vret rfl (Nat.zero_le _) (Nat.zero_le _) dX11_sell_48 ⟨rfl, rfl⟩
  · replace hF := (if_neg c2).symm.trans hF
    refine a_aload_n dX11_sell_16 1 rfl rfl ?_
    refine a_getR hZ.1 (hZ.2 60 0 (by decide) (by decide) Nat.one_pos) fl_X11_91 rfl 0 rfl dX11_sell_17 ?_
    refine a_iload_n dX11_sell_20 0 rfl rfl ?_
    refine a_iconst (v := (3 : Int32)) dX11_sell_21 (by decide) ?_
    refine a_iadd dX11_sell_22 ?_
    refine a_dup2 dX11_sell_23 rfl rfl ?_
    obtain ⟨b3, hF⟩ := gd_some hF
    refine a_iald hZ.1 (s 84 0 (((11 : Int32) * a1) + (3 : Int32)).toNatClampNeg) (hZ.2 84 0 (by decide) (by decide) Nat.one_pos) rfl rfl (inb_vp b3) rfl dX11_sell_24 ?_
    refine a_aload_n dX11_sell_25 1 rfl rfl ?_
    refine a_getR hZ.1 (hZ.2 60 0 (by decide) (by decide) Nat.one_pos) fl_X11_91 rfl 0 rfl dX11_sell_26 ?_
    refine a_iload_n dX11_sell_29 0 rfl rfl ?_
    refine a_iconst (v := (5 : Int32)) dX11_sell_30 (by decide) ?_
    refine a_iadd dX11_sell_31 ?_
    refine a_iload_n dX11_sell_32 3 rfl rfl ?_
    refine a_iadd dX11_sell_33 ?_
    obtain ⟨b4, hF⟩ := gd_some hF
    refine a_iald hZ.1 (s 84 0 ((((11 : Int32) * a1) + (5 : Int32)) + a2).toNatClampNeg) (hZ.2 84 0 (by decide) (by decide) Nat.one_pos) rfl rfl (inb_vp b4) rfl dX11_sell_34 ?_
    refine a_iadd dX11_sell_35 ?_
    obtain ⟨b5, hF⟩ := gd_some hF
    refine a_iast hZ.1 (hZ.2 84 0 (by decide) (by decide) Nat.one_pos) rfl rfl (inb_vp b5) dX11_sell_36 ?_
    refine a_aload_n dX11_sell_37 1 rfl rfl ?_
    refine a_getR hZ.1 (hZ.2 60 0 (by decide) (by decide) Nat.one_pos) fl_X11_91 rfl 0 rfl dX11_sell_38 ?_
    refine a_iload_n dX11_sell_41 0 rfl rfl ?_
    refine a_iconst (v := (5 : Int32)) dX11_sell_42 (by decide) ?_
    refine a_iadd dX11_sell_43 ?_
    refine a_iload_n dX11_sell_44 3 rfl rfl ?_
    refine a_iadd dX11_sell_45 ?_
    refine a_iconst (v := (0 : Int32)) dX11_sell_46 (by decide) ?_
    obtain ⟨b6, hF⟩ := gd_some hF
    refine a_iast hZ.1 (hZ.2 84 0 (by decide) (by decide) Nat.one_pos) rfl rfl (inb_vp b6) dX11_sell_47 ?_
    replace hF := Option.some.inj hF
    subst hF
    exact a_vret rfl (Nat.zero_le _) (Nat.zero_le _) dX11_sell_48 ⟨rfl, rfl⟩
theorem m_X11_sell {Z : ZE} {l : Launch} (hZ : OkM Z) {a1 : Int32} {a2 : Int32}  {s : St} {R : Unit × St} (hF : F_X11_sell (zg Z) a1 a2 s = some R) : Sp Z l yX11_sell iX11_sell [.ref (za Z 60 0), .int a1, .int a2] s (rU R) :=
  Sp.of (by decide) rfl (Nat.le_of_ble_eq_true rfl) (w_X11_sell hZ  s hF)
-- X11_live
def F_X11_live_304 (g : Nat × Nat) (a1 : Int32)  (v2 : Int32) (s : St) : Option (Unit × St) := (gd (inb (v2 + (3 : Int32)) 132) (if 0 ≤ (s 84 0 (v2 + (3 : Int32)).toNatClampNeg) then (some ((), s)) else (gd (inb (v2 + (3 : Int32)) 132) (gd (inb (v2 + (9 : Int32)) 132) (gd (inb (v2 + (9 : Int32)) 132) (some ((), (up (up s 84 0 (v2 + (3 : Int32)).toNatClampNeg (0 : Int32)) 84 0 (v2 + (9 : Int32)).toNatClampNeg (((up s 84 0 (v2 + (3 : Int32)).toNatClampNeg (0 : Int32)) 84 0 (v2 + (9 : Int32)).toNatClampNeg) + (1 : Int32))))))))))
set_option maxRecDepth 100000 in
set_option maxHeartbeats 4000000 in
theorem w_X11_live_304 {Z : ZE} {l : Launch} (hZ : OkM Z) {a1 : Int32}  {R : Unit × St}  (v2 : Int32)  (s : St) (hF : F_X11_live_304 (zg Z) a1 v2 s = some R) : AW Z l iX11_live (Pq (rU R)) 0 0 304 [(0, .ref (za Z 60 0)), (2, .int v2)] [] s := by
  unfold F_X11_live_304 at hF
  refine a_aload_n dX11_live_304 0 rfl rfl ?_
  refine a_getR hZ.1 (hZ.2 60 0 (by decide) (by decide) Nat.one_pos) fl_X11_91 rfl 0 rfl dX11_live_305 ?_
  refine a_iload_n dX11_live_308 1 rfl rfl ?_
  refine a_iconst (v := (3 : Int32)) dX11_live_309 (by decide) ?_
  refine a_iadd dX11_live_310 ?_
  obtain ⟨b1, hF⟩ := gd_some hF
  refine a_iald hZ.1 (s 84 0 (v2 + (3 : Int32)).toNatClampNeg) (hZ.2 84 0 (by decide) (by decide) Nat.one_pos) rfl rfl (inb_vp b1) rfl dX11_live_311 ?_
  refine a_if_ge 337 dX11_live_312 (by decide) (fun c2 => ?_) (fun c2 => ?_)
  · replace hF := (if_pos c2).symm.trans hF
    replace hF := Option.some.inj hF
    subst hF
    exact a_vret rfl (Nat.zero_le _) (Nat.zero_le _) dX11_live_337 ⟨rfl, rfl⟩
  · replace hF := (if_neg c2).symm.trans hF
    refine a_aload_n dX11_live_315 0 rfl rfl ?_
    refine a_getR hZ.1 (hZ.2 60 0 (by decide) (by decide) Nat.one_pos) fl_X11_91 rfl 0 rfl dX11_live_316 ?_
    refine a_iload_n dX11_live_319 1 rfl rfl ?_
    refine a_iconst (v := (3 : Int32)) dX11_live_320 (by decide) ?_
    refine a_iadd dX11_live_321 ?_
    refine a_iconst (v := (0 : Int32)) dX11_live_322 (by decide) ?_
    obtain ⟨b3, hF⟩ := gd_some hF
    refine a_iast hZ.1 (hZ.2 84 0 (by decide) (by decide) Nat.one_pos) rfl rfl (inb_vp b3) dX11_live_323 ?_
    refine a_aload_n dX11_live_324 0 rfl rfl ?_
    refine a_getR hZ.1 (hZ.2 60 0 (by decide) (by decide) Nat.one_pos) fl_X11_91 rfl 0 rfl dX11_live_325 ?_
    refine a_iload_n dX11_live_328 1 rfl rfl ?_
    refine a_bipush (v := (9 : Int32)) dX11_live_329 (by decide) ?_
    refine a_iadd dX11_live_331 ?_
    refine a_dup2 dX11_live_332 rfl rfl ?_
    obtain ⟨b4, hF⟩ := gd_some hF
    refine a_iald hZ.1 ((up s 84 0 (v2 + (3 : Int32)).toNatClampNeg (0 : Int32)) 84 0 (v2 + (9 : Int32)).toNatClampNeg) (hZ.2 84 0 (by decide) (by decide) Nat.one_pos) rfl rfl (inb_vp b4) rfl dX11_live_333 ?_
    refine a_iconst (v := (1 : Int32)) dX11_live_334 (by decide) ?_
    refine a_iadd dX11_live_335 ?_
    obtain ⟨b5, hF⟩ := gd_some hF
    refine a_iast hZ.1 (hZ.2 84 0 (by decide) (by decide) Nat.one_pos) rfl rfl (inb_vp b5) dX11_live_336 ?_
    replace hF := Option.some.inj hF
    subst hF
    exact a_vret rfl (Nat.zero_le _) (Nat.zero_le _) dX11_live_337 ⟨rfl, rfl⟩
def F_X11_live_285 (g : Nat × Nat) (a1 : Int32) (h304_ : Int32 → St → Option (Unit × St)) : Nat → Int32 → Int32 → St → Option (Unit × St)
  | 0, _, _, _ => none
  | n_ + 1, v2, v5, s => (if (4 : Int32) ≤ v5 then (h304_ v2 s) else (bd (F_X11_sell g a1 v5 s) (fun r295 s295 => (F_X11_live_285 g a1 h304_ n_ v2 (v5 + 1) s295))))
set_option maxRecDepth 100000 in
set_option maxHeartbeats 4000000 in
theorem w_X11_live_285 {Z : ZE} {l : Launch} (hZ : OkM Z) {a1 : Int32}  {R : Unit × St} (h304_ : Int32 → St → Option (Unit × St)) (w304_ : ∀ (v2 : Int32)  (s : St), h304_ v2 s = some R → AW Z l iX11_live (Pq (rU R)) 0 0 304 [(0, .ref (za Z 60 0)), (2, .int v2)] [] s) : ∀ (n_ : Nat) (v2 : Int32) (v5 : Int32)  (s : St), F_X11_live_285 (zg Z) a1 h304_ n_ v2 v5 s = some R → AW Z l iX11_live (Pq (rU R)) 0 0 285 [(0, .ref (za Z 60 0)), (1, .int a1), (2, .int v2), (5, .int v5)] [] s := by
  intro n_
  induction n_ with
  | zero =>
    intro v2 v5 s hF
    exact absurd hF (by rw [F_X11_live_285]; exact fun q => by cases q)
  | succ n_ w285_ =>
    intro v2 v5 s hF
    rw [F_X11_live_285] at hF
    refine a_iload dX11_live_285 3 rfl ?_
    refine a_iconst (v := (4 : Int32)) dX11_live_287 (by decide) ?_
    refine a_icmp_ge 304 dX11_live_288 (by decide) (fun c1 => ?_) (fun c1 => ?_)
    · replace hF := (if_pos c1).symm.trans hF
      refine a_loc [(0, .ref (za Z 60 0)), (2, .int v2)] [0, 2] rfl ?_
      exact w304_ v2  _ hF
    · replace hF := (if_neg c1).symm.trans hF
      refine a_aload_n dX11_live_291 0 rfl rfl ?_
      refine a_iload_n dX11_live_292 1 rfl rfl ?_
      refine a_iload dX11_live_293 3 rfl ?_
      obtain ⟨r295, s295, e295, hF⟩ := bd_some hF
      refine a_invV hZ.1 (As := [.int a1, .int v5]) (rest := []) (hZ.2 60 0 (by decide) (by decide) Nat.one_pos) lk_X11_323 ⟨⟨by decide, by decide⟩, by decide, by decide⟩ rfl (Nat.le_of_ble_eq_true rfl) dX11_live_295 (m_X11_sell hZ  e295) ?_
      show AW Z l iX11_live (Pq (rU R)) 0 0 298 [(0, .ref (za Z 60 0)), (1, .int a1), (2, .int v2), (5, .int v5)] [] s295
      refine a_iinc [(5, .int (v5 + 1)), (0, .ref (za Z 60 0)), (1, .int a1), (2, .int v2)] dX11_live_298 3 rfl rfl (by decide) rfl ?_
      refine a_goto 285 dX11_live_301 (by decide) ?_
      refine a_loc [(0, .ref (za Z 60 0)), (1, .int a1), (2, .int v2), (5, .int (v5 + 1))] [1, 2, 3, 0] rfl ?_
      exact w285_ v2 (v5 + 1)  _ hF
def F_X11_live_282 (g : Nat × Nat) (a1 : Int32)  (v2 : Int32) (s : St) : Option (Unit × St) := ((F_X11_live_285 g a1 (F_X11_live_304 g a1 ) fu) v2 (0 : Int32) s)
set_option maxRecDepth 100000 in
set_option maxHeartbeats 4000000 in
theorem w_X11_live_282 {Z : ZE} {l : Launch} (hZ : OkM Z) {a1 : Int32}  {R : Unit × St}  (v2 : Int32)  (s : St) (hF : F_X11_live_282 (zg Z) a1 v2 s = some R) : AW Z l iX11_live (Pq (rU R)) 0 0 282 [(0, .ref (za Z 60 0)), (1, .int a1), (2, .int v2)] [] s := by
  unfold F_X11_live_282 at hF
  refine a_iconst (v := (0 : Int32)) dX11_live_282 (by decide) ?_
  refine a_istore [(5, .int (0 : Int32)), (0, .ref (za Z 60 0)), (1, .int a1), (2, .int v2)] dX11_live_283 (by decide) rfl ?_
  refine a_loc [(0, .ref (za Z 60 0)), (1, .int a1), (2, .int v2), (5, .int (0 : Int32))] [1, 2, 3, 0] rfl ?_
  exact w_X11_live_285 (l := l) hZ  (F_X11_live_304 (zg Z) a1 ) (w_X11_live_304 (l := l) hZ  ) fu v2 (0 : Int32)  _ hF
def F_X11_live_255 (g : Nat × Nat) (a1 : Int32) (h282_ : Int32 → St → Option (Unit × St)) : Nat → Int32 → Int32 → St → Option (Unit × St)
  | 0, _, _, _ => none
  | n_ + 1, v2, v5, s => (if (s 60 0 40) ≤ v5 then (h282_ v2 s) else (gd (inb v5 4) (bd (F_X11_sell g a1 (s 83 0 v5.toNatClampNeg) s) (fun r273 s273 => (F_X11_live_255 g a1 h282_ n_ v2 (v5 + 1) s273)))))
set_option maxRecDepth 100000 in
set_option maxHeartbeats 4000000 in
theorem w_X11_live_255 {Z : ZE} {l : Launch} (hZ : OkM Z) {a1 : Int32}  {R : Unit × St} (h282_ : Int32 → St → Option (Unit × St)) (w282_ : ∀ (v2 : Int32)  (s : St), h282_ v2 s = some R → AW Z l iX11_live (Pq (rU R)) 0 0 282 [(0, .ref (za Z 60 0)), (1, .int a1), (2, .int v2)] [] s) : ∀ (n_ : Nat) (v2 : Int32) (v5 : Int32)  (s : St), F_X11_live_255 (zg Z) a1 h282_ n_ v2 v5 s = some R → AW Z l iX11_live (Pq (rU R)) 0 0 255 [(0, .ref (za Z 60 0)), (1, .int a1), (2, .int v2), (5, .int v5)] [] s := by
  intro n_
  induction n_ with
  | zero =>
    intro v2 v5 s hF
    exact absurd hF (by rw [F_X11_live_255]; exact fun q => by cases q)
  | succ n_ w255_ =>
    intro v2 v5 s hF
    rw [F_X11_live_255] at hF
    refine a_iload dX11_live_255 3 rfl ?_
    refine a_aload_n dX11_live_257 0 rfl rfl ?_
    refine a_getI hZ.1 (s 60 0 40) (hZ.2 60 0 (by decide) (by decide) Nat.one_pos) fl_X11_302 rfl rfl dX11_live_258 ?_
    refine a_icmp_ge 282 dX11_live_261 (by decide) (fun c1 => ?_) (fun c1 => ?_)
    · replace hF := (if_pos c1).symm.trans hF
      refine a_loc [(0, .ref (za Z 60 0)), (1, .int a1), (2, .int v2)] [0, 1, 2] rfl ?_
      exact w282_ v2  _ hF
    · replace hF := (if_neg c1).symm.trans hF
      refine a_aload_n dX11_live_264 0 rfl rfl ?_
      refine a_iload_n dX11_live_265 1 rfl rfl ?_
      refine a_aload_n dX11_live_266 0 rfl rfl ?_
      refine a_getR hZ.1 (hZ.2 60 0 (by decide) (by decide) Nat.one_pos) fl_X11_88 rfl 0 rfl dX11_live_267 ?_
      refine a_iload dX11_live_270 3 rfl ?_
      obtain ⟨b2, hF⟩ := gd_some hF
      refine a_iald hZ.1 (s 83 0 v5.toNatClampNeg) (hZ.2 83 0 (by decide) (by decide) Nat.one_pos) rfl rfl (inb_vp b2) rfl dX11_live_272 ?_
      obtain ⟨r273, s273, e273, hF⟩ := bd_some hF
      refine a_invV hZ.1 (As := [.int a1, .int (s 83 0 v5.toNatClampNeg)]) (rest := []) (hZ.2 60 0 (by decide) (by decide) Nat.one_pos) lk_X11_323 ⟨⟨by decide, by decide⟩, by decide, by decide⟩ rfl (Nat.le_of_ble_eq_true rfl) dX11_live_273 (m_X11_sell hZ  e273) ?_
      show AW Z l iX11_live (Pq (rU R)) 0 0 276 [(0, .ref (za Z 60 0)), (1, .int a1), (2, .int v2), (5, .int v5)] [] s273
      refine a_iinc [(5, .int (v5 + 1)), (0, .ref (za Z 60 0)), (1, .int a1), (2, .int v2)] dX11_live_276 3 rfl rfl (by decide) rfl ?_
      refine a_goto 255 dX11_live_279 (by decide) ?_
      refine a_loc [(0, .ref (za Z 60 0)), (1, .int a1), (2, .int v2), (5, .int (v5 + 1))] [1, 2, 3, 0] rfl ?_
      exact w255_ v2 (v5 + 1)  _ hF
def F_X11_live_252 (g : Nat × Nat) (a1 : Int32)  (v2 : Int32) (s : St) : Option (Unit × St) := ((F_X11_live_255 g a1 (F_X11_live_282 g a1 ) fu) v2 (0 : Int32) s)
set_option maxRecDepth 100000 in
set_option maxHeartbeats 4000000 in
theorem w_X11_live_252 {Z : ZE} {l : Launch} (hZ : OkM Z) {a1 : Int32}  {R : Unit × St}  (v2 : Int32)  (s : St) (hF : F_X11_live_252 (zg Z) a1 v2 s = some R) : AW Z l iX11_live (Pq (rU R)) 0 0 252 [(0, .ref (za Z 60 0)), (1, .int a1), (2, .int v2)] [] s := by
  unfold F_X11_live_252 at hF
  refine a_iconst (v := (0 : Int32)) dX11_live_252 (by decide) ?_
  refine a_istore [(5, .int (0 : Int32)), (0, .ref (za Z 60 0)), (1, .int a1), (2, .int v2)] dX11_live_253 (by decide) rfl ?_
  refine a_loc [(0, .ref (za Z 60 0)), (1, .int a1), (2, .int v2), (5, .int (0 : Int32))] [1, 2, 3, 0] rfl ?_
  exact w_X11_live_255 (l := l) hZ  (F_X11_live_282 (zg Z) a1 ) (w_X11_live_282 (l := l) hZ  ) fu v2 (0 : Int32)  _ hF
def F_X11_live_223 (g : Nat × Nat) (a1 : Int32)  (v2 : Int32) (x0 : Int32) (s : St) : Option (Unit × St) := (gd (inb (v2 + (3 : Int32)) 132) (gd (inb (v2 + (3 : Int32)) 132) (gd (inb (v2 + (10 : Int32)) 132) (gd (inb (v2 + (10 : Int32)) 132) (F_X11_live_252 g a1  v2 (up (up s 84 0 (v2 + (3 : Int32)).toNatClampNeg ((s 84 0 (v2 + (3 : Int32)).toNatClampNeg) + x0)) 84 0 (v2 + (10 : Int32)).toNatClampNeg (((up s 84 0 (v2 + (3 : Int32)).toNatClampNeg ((s 84 0 (v2 + (3 : Int32)).toNatClampNeg) + x0)) 84 0 (v2 + (10 : Int32)).toNatClampNeg) + x0)))))))
set_option maxRecDepth 100000 in
set_option maxHeartbeats 4000000 in
theorem w_X11_live_223 {Z : ZE} {l : Launch} (hZ : OkM Z) {a1 : Int32}  {R : Unit × St}  (v2 : Int32) (x0 : Int32)  (s : St) (hF : F_X11_live_223 (zg Z) a1 v2 x0 s = some R) : AW Z l iX11_live (Pq (rU R)) 0 0 223 [(0, .ref (za Z 60 0)), (1, .int a1), (2, .int v2)] [.int x0] s := by
  unfold F_X11_live_223 at hF
  refine a_istore [(6, .int x0), (0, .ref (za Z 60 0)), (1, .int a1), (2, .int v2)] dX11_live_223 (by decide) rfl ?_
  refine a_aload_n dX11_live_225 1 rfl rfl ?_
  refine a_getR hZ.1 (hZ.2 60 0 (by decide) (by decide) Nat.one_pos) fl_X11_91 rfl 0 rfl dX11_live_226 ?_
  refine a_iload_n dX11_live_229 3 rfl rfl ?_
  refine a_iconst (v := (3 : Int32)) dX11_live_230 (by decide) ?_
  refine a_iadd dX11_live_231 ?_
  refine a_dup2 dX11_live_232 rfl rfl ?_
  obtain ⟨b1, hF⟩ := gd_some hF
  refine a_iald hZ.1 (s 84 0 (v2 + (3 : Int32)).toNatClampNeg) (hZ.2 84 0 (by decide) (by decide) Nat.one_pos) rfl rfl (inb_vp b1) rfl dX11_live_233 ?_
  refine a_iload dX11_live_234 0 rfl ?_
  refine a_iadd dX11_live_236 ?_
  obtain ⟨b2, hF⟩ := gd_some hF
  refine a_iast hZ.1 (hZ.2 84 0 (by decide) (by decide) Nat.one_pos) rfl rfl (inb_vp b2) dX11_live_237 ?_
  refine a_aload_n dX11_live_238 1 rfl rfl ?_
  refine a_getR hZ.1 (hZ.2 60 0 (by decide) (by decide) Nat.one_pos) fl_X11_91 rfl 0 rfl dX11_live_239 ?_
  refine a_iload_n dX11_live_242 3 rfl rfl ?_
  refine a_bipush (v := (10 : Int32)) dX11_live_243 (by decide) ?_
  refine a_iadd dX11_live_245 ?_
  refine a_dup2 dX11_live_246 rfl rfl ?_
  obtain ⟨b3, hF⟩ := gd_some hF
  refine a_iald hZ.1 ((up s 84 0 (v2 + (3 : Int32)).toNatClampNeg ((s 84 0 (v2 + (3 : Int32)).toNatClampNeg) + x0)) 84 0 (v2 + (10 : Int32)).toNatClampNeg) (hZ.2 84 0 (by decide) (by decide) Nat.one_pos) rfl rfl (inb_vp b3) rfl dX11_live_247 ?_
  refine a_iload dX11_live_248 0 rfl ?_
  refine a_iadd dX11_live_250 ?_
  obtain ⟨b4, hF⟩ := gd_some hF
  refine a_iast hZ.1 (hZ.2 84 0 (by decide) (by decide) Nat.one_pos) rfl rfl (inb_vp b4) dX11_live_251 ?_
  refine a_loc [(0, .ref (za Z 60 0)), (1, .int a1), (2, .int v2)] [1, 2, 3] rfl ?_
  exact w_X11_live_252 (l := l) hZ   v2  _ hF
def F_X11_live_185 (g : Nat × Nat) (a1 : Int32)  (v2 : Int32) (v5 : Int32) (s : St) : Option (Unit × St) := (bd (F_X11_numberFor g (s 60 0 10) (2 : Int32) (0 : Int32) s) (fun r194 s194 => (if r194 < v5 then (F_X11_live_223 g a1  v2 (0 : Int32) s194) else (bd (F_X11_numberFor g (s194 60 0 10) (1 : Int32) (0 : Int32) s194) (fun r207 s207 => (gd (inb (v2 + (1 : Int32)) 132) (F_X11_live_223 g a1  v2 (r207 * (s207 84 0 (v2 + (1 : Int32)).toNatClampNeg)) s207)))))))
set_option maxRecDepth 100000 in
set_option maxHeartbeats 4000000 in
theorem w_X11_live_185 {Z : ZE} {l : Launch} (hZ : OkM Z) {a1 : Int32}  {R : Unit × St}  (v2 : Int32) (v5 : Int32)  (s : St) (hF : F_X11_live_185 (zg Z) a1 v2 v5 s = some R) : AW Z l iX11_live (Pq (rU R)) 0 0 185 [(0, .ref (za Z 60 0)), (1, .int a1), (2, .int v2), (5, .int v5)] [] s := by
  unfold F_X11_live_185 at hF
  refine a_iload dX11_live_185 3 rfl ?_
  refine a_aload_n dX11_live_187 0 rfl rfl ?_
  refine a_aload_n dX11_live_188 0 rfl rfl ?_
  refine a_getI hZ.1 (s 60 0 10) (hZ.2 60 0 (by decide) (by decide) Nat.one_pos) fl_X11_188 rfl rfl dX11_live_189 ?_
  refine a_iconst (v := (2 : Int32)) dX11_live_192 (by decide) ?_
  refine a_iconst (v := (0 : Int32)) dX11_live_193 (by decide) ?_
  obtain ⟨r194, s194, e194, hF⟩ := bd_some hF
  refine a_invV hZ.1 (As := [.int (s 60 0 10), .int (2 : Int32), .int (0 : Int32)]) (rest := [.int v5]) (hZ.2 60 0 (by decide) (by decide) Nat.one_pos) lk_X11_298 ⟨⟨by decide, by decide⟩, by decide, by decide⟩ rfl (Nat.le_of_ble_eq_true rfl) dX11_live_194 (m_X11_numberFor hZ  e194) ?_
  show AW Z l iX11_live (Pq (rU R)) 0 0 197 [(0, .ref (za Z 60 0)), (1, .int a1), (2, .int v2), (5, .int v5)] [.int r194, .int v5] s194
  refine a_icmp_gt 222 dX11_live_197 (by decide) (fun c1 => ?_) (fun c1 => ?_)
  · replace hF := (if_pos c1).symm.trans hF
    refine a_iconst (v := (0 : Int32)) dX11_live_222 (by decide) ?_
    refine a_loc [(0, .ref (za Z 60 0)), (1, .int a1), (2, .int v2)] [0, 1, 2] rfl ?_
    exact w_X11_live_223 (l := l) hZ   v2 (0 : Int32)  _ hF
  · replace hF := (if_neg c1).symm.trans hF
    refine a_aload_n dX11_live_200 0 rfl rfl ?_
    refine a_aload_n dX11_live_201 0 rfl rfl ?_
    refine a_getI hZ.1 (s194 60 0 10) (hZ.2 60 0 (by decide) (by decide) Nat.one_pos) fl_X11_188 rfl rfl dX11_live_202 ?_
    refine a_iconst (v := (1 : Int32)) dX11_live_205 (by decide) ?_
    refine a_iconst (v := (0 : Int32)) dX11_live_206 (by decide) ?_
    obtain ⟨r207, s207, e207, hF⟩ := bd_some hF
    refine a_invV hZ.1 (As := [.int (s194 60 0 10), .int (1 : Int32), .int (0 : Int32)]) (rest := []) (hZ.2 60 0 (by decide) (by decide) Nat.one_pos) lk_X11_298 ⟨⟨by decide, by decide⟩, by decide, by decide⟩ rfl (Nat.le_of_ble_eq_true rfl) dX11_live_207 (m_X11_numberFor hZ  e207) ?_
    show AW Z l iX11_live (Pq (rU R)) 0 0 210 [(0, .ref (za Z 60 0)), (1, .int a1), (2, .int v2), (5, .int v5)] [.int r207] s207
    refine a_aload_n dX11_live_210 0 rfl rfl ?_
    refine a_getR hZ.1 (hZ.2 60 0 (by decide) (by decide) Nat.one_pos) fl_X11_91 rfl 0 rfl dX11_live_211 ?_
    refine a_iload_n dX11_live_214 2 rfl rfl ?_
    refine a_iconst (v := (1 : Int32)) dX11_live_215 (by decide) ?_
    refine a_iadd dX11_live_216 ?_
    obtain ⟨b2, hF⟩ := gd_some hF
    refine a_iald hZ.1 (s207 84 0 (v2 + (1 : Int32)).toNatClampNeg) (hZ.2 84 0 (by decide) (by decide) Nat.one_pos) rfl rfl (inb_vp b2) rfl dX11_live_217 ?_
    refine a_imul dX11_live_218 ?_
    refine a_goto 223 dX11_live_219 (by decide) ?_
    refine a_loc [(0, .ref (za Z 60 0)), (1, .int a1), (2, .int v2)] [0, 1, 2] rfl ?_
    exact w_X11_live_223 (l := l) hZ   v2 (r207 * (s207 84 0 (v2 + (1 : Int32)).toNatClampNeg))  _ hF
def F_X11_live_176 (g : Nat × Nat) (a1 : Int32) (h143_ : Int32 → Int32 → Int32 → Int32 → St → Option (Unit × St)) (h185_ : Int32 → Int32 → St → Option (Unit × St)) (v2 : Int32) (v3 : Int32) (v6 : Int32) (x0 : Int32) (x1 : Int32) (s : St) : Option (Unit × St) := (h143_ v2 v3 (x0 + x1) (v6 + 1) s)
set_option maxRecDepth 100000 in
set_option maxHeartbeats 4000000 in
theorem w_X11_live_176 {Z : ZE} {l : Launch} (hZ : OkM Z) {a1 : Int32}  {R : Unit × St} (h143_ : Int32 → Int32 → Int32 → Int32 → St → Option (Unit × St)) (w143_ : ∀ (v2 : Int32) (v3 : Int32) (v5 : Int32) (v6 : Int32)  (s : St), h143_ v2 v3 v5 v6 s = some R → AW Z l iX11_live (Pq (rU R)) 0 0 143 [(0, .ref (za Z 60 0)), (1, .int a1), (2, .int v2), (3, .int v3), (5, .int v5), (6, .int v6)] [] s) (h185_ : Int32 → Int32 → St → Option (Unit × St)) (w185_ : ∀ (v2 : Int32) (v5 : Int32)  (s : St), h185_ v2 v5 s = some R → AW Z l iX11_live (Pq (rU R)) 0 0 185 [(0, .ref (za Z 60 0)), (1, .int a1), (2, .int v2), (5, .int v5)] [] s) (v2 : Int32) (v3 : Int32) (v6 : Int32) (x0 : Int32) (x1 : Int32)  (s : St) (hF : F_X11_live_176 (zg Z) a1 h143_ h185_ v2 v3 v6 x0 x1 s = some R) : AW Z l iX11_live (Pq (rU R)) 0 0 176 [(0, .ref (za Z 60 0)), (1, .int a1), (2, .int v2), (3, .int v3), (6, .int v6)] [.int x1, .int x0] s := by
  unfold F_X11_live_176 at hF
  refine a_iadd dX11_live_176 ?_
  refine a_istore [(5, .int (x0 + x1)), (0, .ref (za Z 60 0)), (1, .int a1), (2, .int v2), (3, .int v3), (6, .int v6)] dX11_live_177 (by decide) rfl ?_
  refine a_iinc [(6, .int (v6 + 1)), (5, .int (x0 + x1)), (0, .ref (za Z 60 0)), (1, .int a1), (2, .int v2), (3, .int v3)] dX11_live_179 5 rfl rfl (by decide) rfl ?_
  refine a_goto 143 dX11_live_182 (by decide) ?_
  refine a_loc [(0, .ref (za Z 60 0)), (1, .int a1), (2, .int v2), (3, .int v3), (5, .int (x0 + x1)), (6, .int (v6 + 1))] [2, 3, 4, 5, 1, 0] rfl ?_
  exact w143_ v2 v3 (x0 + x1) (v6 + 1)  _ hF
def F_X11_live_143 (g : Nat × Nat) (a1 : Int32) (h185_ : Int32 → Int32 → St → Option (Unit × St)) : Nat → Int32 → Int32 → Int32 → Int32 → St → Option (Unit × St)
  | 0, _, _, _, _, _ => none
  | n_ + 1, v2, v3, v5, v6, s => (if (4 : Int32) ≤ v6 then (h185_ v2 v5 s) else (if ((v3 >>> (v6 &&& 31)) &&& (1 : Int32)) = (1 : Int32) then (gd (inb ((v2 + (5 : Int32)) + v6) 132) (F_X11_live_176 g a1 (F_X11_live_143 g a1 h185_ n_) h185_ v2 v3 v6 v5 (s 84 0 ((v2 + (5 : Int32)) + v6).toNatClampNeg) s)) else (F_X11_live_176 g a1 (F_X11_live_143 g a1 h185_ n_) h185_ v2 v3 v6 v5 (0 : Int32) s)))
set_option maxRecDepth 100000 in
set_option maxHeartbeats 4000000 in
theorem w_X11_live_143 {Z : ZE} {l : Launch} (hZ : OkM Z) {a1 : Int32}  {R : Unit × St} (h185_ : Int32 → Int32 → St → Option (Unit × St)) (w185_ : ∀ (v2 : Int32) (v5 : Int32)  (s : St), h185_ v2 v5 s = some R → AW Z l iX11_live (Pq (rU R)) 0 0 185 [(0, .ref (za Z 60 0)), (1, .int a1), (2, .int v2), (5, .int v5)] [] s) : ∀ (n_ : Nat) (v2 : Int32) (v3 : Int32) (v5 : Int32) (v6 : Int32)  (s : St), F_X11_live_143 (zg Z) a1 h185_ n_ v2 v3 v5 v6 s = some R → AW Z l iX11_live (Pq (rU R)) 0 0 143 [(0, .ref (za Z 60 0)), (1, .int a1), (2, .int v2), (3, .int v3), (5, .int v5), (6, .int v6)] [] s := by
  intro n_
  induction n_ with
  | zero =>
    intro v2 v3 v5 v6 s hF
    exact absurd hF (by rw [F_X11_live_143]; exact fun q => by cases q)
  | succ n_ w143_ =>
    intro v2 v3 v5 v6 s hF
    rw [F_X11_live_143] at hF
    refine a_iload dX11_live_143 5 rfl ?_
    refine a_iconst (v := (4 : Int32)) dX11_live_145 (by decide) ?_
    refine a_icmp_ge 185 dX11_live_146 (by decide) (fun c1 => ?_) (fun c1 => ?_)
    · replace hF := (if_pos c1).symm.trans hF
      refine a_loc [(0, .ref (za Z 60 0)), (1, .int a1), (2, .int v2), (5, .int v5)] [0, 1, 2, 4] rfl ?_
      exact w185_ v2 v5  _ hF
    · replace hF := (if_neg c1).symm.trans hF
      refine a_iload dX11_live_149 4 rfl ?_
      refine a_iload_n dX11_live_151 3 rfl rfl ?_
      refine a_iload dX11_live_152 5 rfl ?_
      refine a_ishr dX11_live_154 ?_
      refine a_iconst (v := (1 : Int32)) dX11_live_155 (by decide) ?_
      refine a_iand dX11_live_156 ?_
      refine a_iconst (v := (1 : Int32)) dX11_live_157 (by decide) ?_
      refine a_icmp_ne 175 dX11_live_158 (by decide) (fun c2 => ?_) (fun c2 => ?_)
      · replace hF := (if_neg c2).symm.trans hF
        refine a_iconst (v := (0 : Int32)) dX11_live_175 (by decide) ?_
        refine a_loc [(0, .ref (za Z 60 0)), (1, .int a1), (2, .int v2), (3, .int v3), (6, .int v6)] [0, 1, 2, 3, 5] rfl ?_
        exact w_X11_live_176 (l := l) hZ  (F_X11_live_143 (zg Z) a1 h185_ n_) w143_ h185_ w185_ v2 v3 v6 v5 (0 : Int32)  _ hF
      · replace hF := (if_pos c2).symm.trans hF
        refine a_aload_n dX11_live_161 0 rfl rfl ?_
        refine a_getR hZ.1 (hZ.2 60 0 (by decide) (by decide) Nat.one_pos) fl_X11_91 rfl 0 rfl dX11_live_162 ?_
        refine a_iload_n dX11_live_165 2 rfl rfl ?_
        refine a_iconst (v := (5 : Int32)) dX11_live_166 (by decide) ?_
        refine a_iadd dX11_live_167 ?_
        refine a_iload dX11_live_168 5 rfl ?_
        refine a_iadd dX11_live_170 ?_
        obtain ⟨b3, hF⟩ := gd_some hF
        refine a_iald hZ.1 (s 84 0 ((v2 + (5 : Int32)) + v6).toNatClampNeg) (hZ.2 84 0 (by decide) (by decide) Nat.one_pos) rfl rfl (inb_vp b3) rfl dX11_live_171 ?_
        refine a_goto 176 dX11_live_172 (by decide) ?_
        refine a_loc [(0, .ref (za Z 60 0)), (1, .int a1), (2, .int v2), (3, .int v3), (6, .int v6)] [0, 1, 2, 3, 5] rfl ?_
        exact w_X11_live_176 (l := l) hZ  (F_X11_live_143 (zg Z) a1 h185_ n_) w143_ h185_ w185_ v2 v3 v6 v5 (s 84 0 ((v2 + (5 : Int32)) + v6).toNatClampNeg)  _ hF
def F_X11_live_92 (g : Nat × Nat) (a1 : Int32)  (v2 : Int32) (v3 : Int32) (v4 : Int32) (x1 : Int32) (x2 : Int32) (x3 : Int32) (s : St) : Option (Unit × St) := (gd (inb (v2 + (1 : Int32)) 132) (bd (F_X11_numberFor g (s 60 0 10) (3 : Int32) (0 : Int32) s) (fun r107 s107 => (gd (inb (v2 + (4 : Int32)) 132) (gd (inb x1 132) (if v4 = (-1000000) then (gd (inb (v2 + (3 : Int32)) 132) ((F_X11_live_143 g a1 (F_X11_live_185 g a1 ) fu) v2 v3 ((up s107 84 0 x1.toNatClampNeg (x2 + ((x3 - ((s 84 0 (v2 + (1 : Int32)).toNatClampNeg) * r107)) - (s107 84 0 (v2 + (4 : Int32)).toNatClampNeg)))) 84 0 (v2 + (3 : Int32)).toNatClampNeg) (0 : Int32) (up s107 84 0 x1.toNatClampNeg (x2 + ((x3 - ((s 84 0 (v2 + (1 : Int32)).toNatClampNeg) * r107)) - (s107 84 0 (v2 + (4 : Int32)).toNatClampNeg)))))) else (F_X11_live_252 g a1  v2 (up s107 84 0 x1.toNatClampNeg (x2 + ((x3 - ((s 84 0 (v2 + (1 : Int32)).toNatClampNeg) * r107)) - (s107 84 0 (v2 + (4 : Int32)).toNatClampNeg)))))))))))
set_option maxRecDepth 100000 in
set_option maxHeartbeats 4000000 in
theorem w_X11_live_92 {Z : ZE} {l : Launch} (hZ : OkM Z) {a1 : Int32}  {R : Unit × St}  (v2 : Int32) (v3 : Int32) (v4 : Int32) (x1 : Int32) (x2 : Int32) (x3 : Int32)  (s : St) (hF : F_X11_live_92 (zg Z) a1 v2 v3 v4 x1 x2 x3 s = some R) : AW Z l iX11_live (Pq (rU R)) 0 0 92 [(0, .ref (za Z 60 0)), (1, .int a1), (2, .int v2), (3, .int v3), (4, .int v4)] [.int x3, .int x2, .int x1, .ref (za Z 84 0)] s := by
  unfold F_X11_live_92 at hF
  refine a_aload_n dX11_live_92 0 rfl rfl ?_
  refine a_getR hZ.1 (hZ.2 60 0 (by decide) (by decide) Nat.one_pos) fl_X11_91 rfl 0 rfl dX11_live_93 ?_
  refine a_iload_n dX11_live_96 2 rfl rfl ?_
  refine a_iconst (v := (1 : Int32)) dX11_live_97 (by decide) ?_
  refine a_iadd dX11_live_98 ?_
  obtain ⟨b1, hF⟩ := gd_some hF
  refine a_iald hZ.1 (s 84 0 (v2 + (1 : Int32)).toNatClampNeg) (hZ.2 84 0 (by decide) (by decide) Nat.one_pos) rfl rfl (inb_vp b1) rfl dX11_live_99 ?_
  refine a_aload_n dX11_live_100 0 rfl rfl ?_
  refine a_aload_n dX11_live_101 0 rfl rfl ?_
  refine a_getI hZ.1 (s 60 0 10) (hZ.2 60 0 (by decide) (by decide) Nat.one_pos) fl_X11_188 rfl rfl dX11_live_102 ?_
  refine a_iconst (v := (3 : Int32)) dX11_live_105 (by decide) ?_
  refine a_iconst (v := (0 : Int32)) dX11_live_106 (by decide) ?_
  obtain ⟨r107, s107, e107, hF⟩ := bd_some hF
  refine a_invV hZ.1 (As := [.int (s 60 0 10), .int (3 : Int32), .int (0 : Int32)]) (rest := [.int (s 84 0 (v2 + (1 : Int32)).toNatClampNeg), .int x3, .int x2, .int x1, .ref (za Z 84 0)]) (hZ.2 60 0 (by decide) (by decide) Nat.one_pos) lk_X11_298 ⟨⟨by decide, by decide⟩, by decide, by decide⟩ rfl (Nat.le_of_ble_eq_true rfl) dX11_live_107 (m_X11_numberFor hZ  e107) ?_
  show AW Z l iX11_live (Pq (rU R)) 0 0 110 [(0, .ref (za Z 60 0)), (1, .int a1), (2, .int v2), (3, .int v3), (4, .int v4)] [.int r107, .int (s 84 0 (v2 + (1 : Int32)).toNatClampNeg), .int x3, .int x2, .int x1, .ref (za Z 84 0)] s107
  refine a_imul dX11_live_110 ?_
  refine a_isub dX11_live_111 ?_
  refine a_aload_n dX11_live_112 0 rfl rfl ?_
  refine a_getR hZ.1 (hZ.2 60 0 (by decide) (by decide) Nat.one_pos) fl_X11_91 rfl 0 rfl dX11_live_113 ?_
  refine a_iload_n dX11_live_116 2 rfl rfl ?_
  refine a_iconst (v := (4 : Int32)) dX11_live_117 (by decide) ?_
  refine a_iadd dX11_live_118 ?_
  obtain ⟨b2, hF⟩ := gd_some hF
  refine a_iald hZ.1 (s107 84 0 (v2 + (4 : Int32)).toNatClampNeg) (hZ.2 84 0 (by decide) (by decide) Nat.one_pos) rfl rfl (inb_vp b2) rfl dX11_live_119 ?_
  refine a_isub dX11_live_120 ?_
  refine a_iadd dX11_live_121 ?_
  obtain ⟨b3, hF⟩ := gd_some hF
  refine a_iast hZ.1 (hZ.2 84 0 (by decide) (by decide) Nat.one_pos) rfl rfl (inb_vp b3) dX11_live_122 ?_
  refine a_iload dX11_live_123 4 rfl ?_
  refine a_ldc (v := (-1000000)) kw_951 dX11_live_125 ?_
  refine a_icmp_ne 252 dX11_live_127 (by decide) (fun c4 => ?_) (fun c4 => ?_)
  · replace hF := (if_neg c4).symm.trans hF
    refine a_loc [(0, .ref (za Z 60 0)), (1, .int a1), (2, .int v2)] [0, 1, 2] rfl ?_
    exact w_X11_live_252 (l := l) hZ   v2  _ hF
  · replace hF := (if_pos c4).symm.trans hF
    refine a_aload_n dX11_live_130 0 rfl rfl ?_
    refine a_getR hZ.1 (hZ.2 60 0 (by decide) (by decide) Nat.one_pos) fl_X11_91 rfl 0 rfl dX11_live_131 ?_
    refine a_iload_n dX11_live_134 2 rfl rfl ?_
    refine a_iconst (v := (3 : Int32)) dX11_live_135 (by decide) ?_
    refine a_iadd dX11_live_136 ?_
    obtain ⟨b5, hF⟩ := gd_some hF
    refine a_iald hZ.1 ((up s107 84 0 x1.toNatClampNeg (x2 + ((x3 - ((s 84 0 (v2 + (1 : Int32)).toNatClampNeg) * r107)) - (s107 84 0 (v2 + (4 : Int32)).toNatClampNeg)))) 84 0 (v2 + (3 : Int32)).toNatClampNeg) (hZ.2 84 0 (by decide) (by decide) Nat.one_pos) rfl rfl (inb_vp b5) rfl dX11_live_137 ?_
    refine a_istore [(5, .int ((up s107 84 0 x1.toNatClampNeg (x2 + ((x3 - ((s 84 0 (v2 + (1 : Int32)).toNatClampNeg) * r107)) - (s107 84 0 (v2 + (4 : Int32)).toNatClampNeg)))) 84 0 (v2 + (3 : Int32)).toNatClampNeg)), (0, .ref (za Z 60 0)), (1, .int a1), (2, .int v2), (3, .int v3), (4, .int v4)] dX11_live_138 (by decide) rfl ?_
    refine a_iconst (v := (0 : Int32)) dX11_live_140 (by decide) ?_
    refine a_istore [(6, .int (0 : Int32)), (5, .int ((up s107 84 0 x1.toNatClampNeg (x2 + ((x3 - ((s 84 0 (v2 + (1 : Int32)).toNatClampNeg) * r107)) - (s107 84 0 (v2 + (4 : Int32)).toNatClampNeg)))) 84 0 (v2 + (3 : Int32)).toNatClampNeg)), (0, .ref (za Z 60 0)), (1, .int a1), (2, .int v2), (3, .int v3), (4, .int v4)] dX11_live_141 (by decide) rfl ?_
    refine a_loc [(0, .ref (za Z 60 0)), (1, .int a1), (2, .int v2), (3, .int v3), (5, .int ((up s107 84 0 x1.toNatClampNeg (x2 + ((x3 - ((s 84 0 (v2 + (1 : Int32)).toNatClampNeg) * r107)) - (s107 84 0 (v2 + (4 : Int32)).toNatClampNeg)))) 84 0 (v2 + (3 : Int32)).toNatClampNeg)), (6, .int (0 : Int32))] [2, 3, 4, 5, 1, 0] rfl ?_
    exact w_X11_live_143 (l := l) hZ  (F_X11_live_185 (zg Z) a1 ) (w_X11_live_185 (l := l) hZ  ) fu v2 v3 ((up s107 84 0 x1.toNatClampNeg (x2 + ((x3 - ((s 84 0 (v2 + (1 : Int32)).toNatClampNeg) * r107)) - (s107 84 0 (v2 + (4 : Int32)).toNatClampNeg)))) 84 0 (v2 + (3 : Int32)).toNatClampNeg) (0 : Int32)  _ hF
def F_X11_live_51 (g : Nat × Nat) (a1 : Int32)  (v2 : Int32) (v3 : Int32) (x0 : Int32) (s : St) : Option (Unit × St) := (gd (inb (v2 + (3 : Int32)) 132) (if x0 = (-1000000) then (F_X11_live_92 g a1  v2 v3 x0 (v2 + (3 : Int32)) (s 84 0 (v2 + (3 : Int32)).toNatClampNeg) (0 : Int32) s) else (gd (inb (v2 + (2 : Int32)) 132) (bd (F_X11_earnOn g x0 (s 60 0 10) s) (fun r88 s88 => (F_X11_live_92 g a1  v2 v3 x0 (v2 + (3 : Int32)) (s 84 0 (v2 + (3 : Int32)).toNatClampNeg) ((s 84 0 (v2 + (2 : Int32)).toNatClampNeg) * r88) s88))))))
set_option maxRecDepth 100000 in
set_option maxHeartbeats 4000000 in
theorem w_X11_live_51 {Z : ZE} {l : Launch} (hZ : OkM Z) {a1 : Int32}  {R : Unit × St}  (v2 : Int32) (v3 : Int32) (x0 : Int32)  (s : St) (hF : F_X11_live_51 (zg Z) a1 v2 v3 x0 s = some R) : AW Z l iX11_live (Pq (rU R)) 0 0 51 [(0, .ref (za Z 60 0)), (1, .int a1), (2, .int v2), (3, .int v3)] [.int x0] s := by
  unfold F_X11_live_51 at hF
  refine a_istore [(4, .int x0), (0, .ref (za Z 60 0)), (1, .int a1), (2, .int v2), (3, .int v3)] dX11_live_51 (by decide) rfl ?_
  refine a_aload_n dX11_live_53 1 rfl rfl ?_
  refine a_getR hZ.1 (hZ.2 60 0 (by decide) (by decide) Nat.one_pos) fl_X11_91 rfl 0 rfl dX11_live_54 ?_
  refine a_iload_n dX11_live_57 3 rfl rfl ?_
  refine a_iconst (v := (3 : Int32)) dX11_live_58 (by decide) ?_
  refine a_iadd dX11_live_59 ?_
  refine a_dup2 dX11_live_60 rfl rfl ?_
  obtain ⟨b1, hF⟩ := gd_some hF
  refine a_iald hZ.1 (s 84 0 (v2 + (3 : Int32)).toNatClampNeg) (hZ.2 84 0 (by decide) (by decide) Nat.one_pos) rfl rfl (inb_vp b1) rfl dX11_live_61 ?_
  refine a_iload dX11_live_62 0 rfl ?_
  refine a_ldc (v := (-1000000)) kw_951 dX11_live_64 ?_
  refine a_icmp_ne 73 dX11_live_66 (by decide) (fun c2 => ?_) (fun c2 => ?_)
  · replace hF := (if_neg c2).symm.trans hF
    refine a_aload_n dX11_live_73 1 rfl rfl ?_
    refine a_getR hZ.1 (hZ.2 60 0 (by decide) (by decide) Nat.one_pos) fl_X11_91 rfl 0 rfl dX11_live_74 ?_
    refine a_iload_n dX11_live_77 3 rfl rfl ?_
    refine a_iconst (v := (2 : Int32)) dX11_live_78 (by decide) ?_
    refine a_iadd dX11_live_79 ?_
    obtain ⟨b3, hF⟩ := gd_some hF
    refine a_iald hZ.1 (s 84 0 (v2 + (2 : Int32)).toNatClampNeg) (hZ.2 84 0 (by decide) (by decide) Nat.one_pos) rfl rfl (inb_vp b3) rfl dX11_live_80 ?_
    refine a_aload_n dX11_live_81 1 rfl rfl ?_
    refine a_iload dX11_live_82 0 rfl ?_
    refine a_aload_n dX11_live_84 1 rfl rfl ?_
    refine a_getI hZ.1 (s 60 0 10) (hZ.2 60 0 (by decide) (by decide) Nat.one_pos) fl_X11_188 rfl rfl dX11_live_85 ?_
    obtain ⟨r88, s88, e88, hF⟩ := bd_some hF
    refine a_invV hZ.1 (As := [.int x0, .int (s 60 0 10)]) (rest := [.int (s 84 0 (v2 + (2 : Int32)).toNatClampNeg), .int (s 84 0 (v2 + (3 : Int32)).toNatClampNeg), .int (v2 + (3 : Int32)), .ref (za Z 84 0)]) (hZ.2 60 0 (by decide) (by decide) Nat.one_pos) lk_X11_312 ⟨⟨by decide, by decide⟩, by decide, by decide⟩ rfl (Nat.le_of_ble_eq_true rfl) dX11_live_88 (m_X11_earnOn hZ  e88) ?_
    show AW Z l iX11_live (Pq (rU R)) 0 0 91 [(4, .int x0), (0, .ref (za Z 60 0)), (1, .int a1), (2, .int v2), (3, .int v3)] [.int r88, .int (s 84 0 (v2 + (2 : Int32)).toNatClampNeg), .int (s 84 0 (v2 + (3 : Int32)).toNatClampNeg), .int (v2 + (3 : Int32)), .ref (za Z 84 0)] s88
    refine a_imul dX11_live_91 ?_
    refine a_loc [(0, .ref (za Z 60 0)), (1, .int a1), (2, .int v2), (3, .int v3), (4, .int x0)] [1, 2, 3, 4, 0] rfl ?_
    exact w_X11_live_92 (l := l) hZ   v2 v3 x0 (v2 + (3 : Int32)) (s 84 0 (v2 + (3 : Int32)).toNatClampNeg) ((s 84 0 (v2 + (2 : Int32)).toNatClampNeg) * r88)  _ hF
  · replace hF := (if_pos c2).symm.trans hF
    refine a_iconst (v := (0 : Int32)) dX11_live_69 (by decide) ?_
    refine a_goto 92 dX11_live_70 (by decide) ?_
    refine a_loc [(0, .ref (za Z 60 0)), (1, .int a1), (2, .int v2), (3, .int v3), (4, .int x0)] [1, 2, 3, 4, 0] rfl ?_
    exact w_X11_live_92 (l := l) hZ   v2 v3 x0 (v2 + (3 : Int32)) (s 84 0 (v2 + (3 : Int32)).toNatClampNeg) (0 : Int32)  _ hF
def F_X11_live (g : Nat × Nat) (a1 : Int32)   (s : St) : Option (Unit × St) := (bd (F_X11_findFirst g (s 60 0 10) s) (fun r10 s10 => (gd (inb ((11 : Int32) * a1) 132) (if (s10 60 0 15) ≤ (s10 84 0 ((11 : Int32) * a1).toNatClampNeg) then (F_X11_live_51 g a1  ((11 : Int32) * a1) r10 (-1000000) s10) else (gd (inb ((11 : Int32) * a1) 132) (gd (inb (((100 : Int32) * (s10 84 0 ((11 : Int32) * a1).toNatClampNeg)) + (s10 60 0 10)) 600) (F_X11_live_51 g a1  ((11 : Int32) * a1) r10 (s10 76 0 (((100 : Int32) * (s10 84 0 ((11 : Int32) * a1).toNatClampNeg)) + (s10 60 0 10)).toNatClampNeg) s10)))))))
set_option maxRecDepth 100000 in
set_option maxHeartbeats 4000000 in
theorem w_X11_live {Z : ZE} {l : Launch} (hZ : OkM Z) {a1 : Int32}  {R : Unit × St}    (s : St) (hF : F_X11_live (zg Z) a1  s = some R) : AW Z l iX11_live (Pq (rU R)) 0 0 0 [(0, .ref (za Z 60 0)), (1, .int a1)] [] s := by
  unfold F_X11_live at hF
  refine a_bipush (v := (11 : Int32)) dX11_live_0 (by decide) ?_
  refine a_iload_n dX11_live_2 1 rfl rfl ?_
  refine a_imul dX11_live_3 ?_
  refine a_istore_n [(2, .int ((11 : Int32) * a1)), (0, .ref (za Z 60 0)), (1, .int a1)] dX11_live_4 rfl (by decide) rfl ?_
  refine a_aload_n dX11_live_5 1 rfl rfl ?_
  refine a_aload_n dX11_live_6 1 rfl rfl ?_
  refine a_getI hZ.1 (s 60 0 10) (hZ.2 60 0 (by decide) (by decide) Nat.one_pos) fl_X11_188 rfl rfl dX11_live_7 ?_
  obtain ⟨r10, s10, e10, hF⟩ := bd_some hF
  refine a_invV hZ.1 (As := [.int (s 60 0 10)]) (rest := []) (hZ.2 60 0 (by decide) (by decide) Nat.one_pos) lk_X11_305 ⟨⟨by decide, by decide⟩, by decide, by decide⟩ rfl (Nat.le_of_ble_eq_true rfl) dX11_live_10 (m_X11_findFirst hZ  e10) ?_
  show AW Z l iX11_live (Pq (rU R)) 0 0 13 [(2, .int ((11 : Int32) * a1)), (0, .ref (za Z 60 0)), (1, .int a1)] [.int r10] s10
  refine a_istore_n [(3, .int r10), (2, .int ((11 : Int32) * a1)), (0, .ref (za Z 60 0)), (1, .int a1)] dX11_live_13 rfl (by decide) rfl ?_
  refine a_aload_n dX11_live_14 2 rfl rfl ?_
  refine a_getR hZ.1 (hZ.2 60 0 (by decide) (by decide) Nat.one_pos) fl_X11_91 rfl 0 rfl dX11_live_15 ?_
  refine a_iload_n dX11_live_18 1 rfl rfl ?_
  obtain ⟨b1, hF⟩ := gd_some hF
  refine a_iald hZ.1 (s10 84 0 ((11 : Int32) * a1).toNatClampNeg) (hZ.2 84 0 (by decide) (by decide) Nat.one_pos) rfl rfl (inb_vp b1) rfl dX11_live_19 ?_
  refine a_aload_n dX11_live_20 2 rfl rfl ?_
  refine a_getI hZ.1 (s10 60 0 15) (hZ.2 60 0 (by decide) (by decide) Nat.one_pos) fl_X11_145 rfl rfl dX11_live_21 ?_
  refine a_icmp_ge 49 dX11_live_24 (by decide) (fun c2 => ?_) (fun c2 => ?_)
  · replace hF := (if_pos c2).symm.trans hF
    refine a_ldc (v := (-1000000)) kw_951 dX11_live_49 ?_
    refine a_loc [(0, .ref (za Z 60 0)), (1, .int a1), (2, .int ((11 : Int32) * a1)), (3, .int r10)] [2, 3, 1, 0] rfl ?_
    exact w_X11_live_51 (l := l) hZ   ((11 : Int32) * a1) r10 (-1000000)  _ hF
  · replace hF := (if_neg c2).symm.trans hF
    refine a_aload_n dX11_live_27 2 rfl rfl ?_
    refine a_getR hZ.1 (hZ.2 60 0 (by decide) (by decide) Nat.one_pos) fl_X11_66 rfl 0 rfl dX11_live_28 ?_
    refine a_bipush (v := (100 : Int32)) dX11_live_31 (by decide) ?_
    refine a_aload_n dX11_live_33 2 rfl rfl ?_
    refine a_getR hZ.1 (hZ.2 60 0 (by decide) (by decide) Nat.one_pos) fl_X11_91 rfl 0 rfl dX11_live_34 ?_
    refine a_iload_n dX11_live_37 1 rfl rfl ?_
    obtain ⟨b3, hF⟩ := gd_some hF
    refine a_iald hZ.1 (s10 84 0 ((11 : Int32) * a1).toNatClampNeg) (hZ.2 84 0 (by decide) (by decide) Nat.one_pos) rfl rfl (inb_vp b3) rfl dX11_live_38 ?_
    refine a_imul dX11_live_39 ?_
    refine a_aload_n dX11_live_40 2 rfl rfl ?_
    refine a_getI hZ.1 (s10 60 0 10) (hZ.2 60 0 (by decide) (by decide) Nat.one_pos) fl_X11_188 rfl rfl dX11_live_41 ?_
    refine a_iadd dX11_live_44 ?_
    obtain ⟨b4, hF⟩ := gd_some hF
    refine a_iald hZ.1 (s10 76 0 (((100 : Int32) * (s10 84 0 ((11 : Int32) * a1).toNatClampNeg)) + (s10 60 0 10)).toNatClampNeg) (hZ.2 76 0 (by decide) (by decide) Nat.one_pos) rfl rfl (inb_vp b4) rfl dX11_live_45 ?_
    refine a_goto 51 dX11_live_46 (by decide) ?_
    refine a_loc [(0, .ref (za Z 60 0)), (1, .int a1), (2, .int ((11 : Int32) * a1)), (3, .int r10)] [2, 3, 1, 0] rfl ?_
    exact w_X11_live_51 (l := l) hZ   ((11 : Int32) * a1) r10 (s10 76 0 (((100 : Int32) * (s10 84 0 ((11 : Int32) * a1).toNatClampNeg)) + (s10 60 0 10)).toNatClampNeg)  _ hF
theorem m_X11_live {Z : ZE} {l : Launch} (hZ : OkM Z) {a1 : Int32}  {s : St} {R : Unit × St} (hF : F_X11_live (zg Z) a1 s = some R) : Sp Z l yX11_live iX11_live [.ref (za Z 60 0), .int a1] s (rU R) :=
  Sp.of (by decide) rfl (Nat.le_of_ble_eq_true rfl) (w_X11_live hZ  s hF)
-- X11_mill
def F_X11_mill (g : Nat × Nat) (a1 : Int32) (a2 : Int32) (a3 : Int32) (a4 : Int32)   (s : St) : Option (Int32 × St) := (bd (F_X11_in g a1.toInt64 (1 : Int64) (50 : Int64) (up s 60 0 0 (0 : Int32))) (fun r11 s11 => (if r11 = 0 then (some ((-1000001), s11)) else (bd (F_X11_in g a2.toInt64 (1 : Int64) (15 : Int64) s11) (fun r23 s23 => (if r23 = 0 then (some ((-1000001), s23)) else (bd (F_X11_in g a3.toInt64 (0 : Int64) (1000 : Int64) s23) (fun r35 s35 => (if r35 = 0 then (some ((-1000001), s35)) else (bd (F_X11_in g a4.toInt64 (0 : Int64) (5000 : Int64) s35) (fun r48 s48 => (if r48 = 0 then (some ((-1000001), s48)) else (if (s48 60 0 15) = (6 : Int32) then (some ((-1000003), s48)) else (gd (inb (s48 60 0 15) 6) (gd (inb (s48 60 0 15) 6) (gd (inb (s48 60 0 15) 6) (gd (inb (s48 60 0 15) 6) (some ((((s48 60 0 15) + (1 : Int32)) - (1 : Int32)), (up (up (up (up (up s48 70 0 (s48 60 0 15).toNatClampNeg a1) 71 0 (s48 60 0 15).toNatClampNeg a2) 72 0 (s48 60 0 15).toNatClampNeg a3) 73 0 (s48 60 0 15).toNatClampNeg a4) 60 0 15 ((s48 60 0 15) + (1 : Int32))))))))))))))))))))))
set_option maxRecDepth 100000 in
set_option maxHeartbeats 4000000 in
theorem w_X11_mill {Z : ZE} {l : Launch} (hZ : OkM Z) {a1 : Int32} {a2 : Int32} {a3 : Int32} {a4 : Int32}  {R : Int32 × St}    (s : St) (hF : F_X11_mill (zg Z) a1 a2 a3 a4  s = some R) : AW Z l iX11_mill (Pq (rI R)) 0 0 0 [(0, .ref (za Z 60 0)), (1, .int a1), (2, .int a2), (3, .int a3), (4, .int a4)] [] s := by
  unfold F_X11_mill at hF
  refine a_aload_n dX11_mill_0 0 rfl rfl ?_
  refine a_iconst (v := (0 : Int32)) dX11_mill_1 (by decide) ?_
  refine a_put hZ.1 (hZ.2 60 0 (by decide) (by decide) Nat.one_pos) fl_X11_1 rfl rfl rfl dX11_mill_2 ?_
  refine a_iload_n dX11_mill_5 1 rfl rfl ?_
  refine a_i2l dX11_mill_6 ?_
  refine a_lconst (v := (1 : Int64)) dX11_mill_7 (by decide) ?_
  refine a_ldc2 (v := (50 : Int64)) kw_1181 dX11_mill_8 ?_
  obtain ⟨r11, s11, e11, hF⟩ := bd_some hF
  refine a_invS hZ.1 (As := [.long a1.toInt64, .long (1 : Int64), .long (50 : Int64)]) (rest := []) lk_X11_126 ⟨⟨by decide, by decide⟩, by decide, by decide⟩ rfl (Nat.le_of_ble_eq_true rfl) dX11_mill_11 (m_X11_in hZ  e11) ?_
  show AW Z l iX11_mill (Pq (rI R)) 0 0 14 [(0, .ref (za Z 60 0)), (1, .int a1), (2, .int a2), (3, .int a3), (4, .int a4)] [.int r11] s11
  refine a_if_eq 54 dX11_mill_14 (by decide) (fun c1 => ?_) (fun c1 => ?_)
  · replace hF := (if_pos c1).symm.trans hF
    refine a_ldc (v := (-1000001)) kw_1136 dX11_mill_54 ?_
    replace hF := Option.some.inj hF
    subst hF
    exact a_iret rfl (Nat.zero_le _) (Nat.zero_le _) dX11_mill_56 ⟨rfl, rfl⟩
  · replace hF := (if_neg c1).symm.trans hF
    refine a_iload_n dX11_mill_17 2 rfl rfl ?_
    refine a_i2l dX11_mill_18 ?_
    refine a_lconst (v := (1 : Int64)) dX11_mill_19 (by decide) ?_
    refine a_ldc2 (v := (15 : Int64)) kw_1182 dX11_mill_20 ?_
    obtain ⟨r23, s23, e23, hF⟩ := bd_some hF
    refine a_invS hZ.1 (As := [.long a2.toInt64, .long (1 : Int64), .long (15 : Int64)]) (rest := []) lk_X11_126 ⟨⟨by decide, by decide⟩, by decide, by decide⟩ rfl (Nat.le_of_ble_eq_true rfl) dX11_mill_23 (m_X11_in hZ  e23) ?_
    show AW Z l iX11_mill (Pq (rI R)) 0 0 26 [(0, .ref (za Z 60 0)), (1, .int a1), (2, .int a2), (3, .int a3), (4, .int a4)] [.int r23] s23
    refine a_if_eq 54 dX11_mill_26 (by decide) (fun c2 => ?_) (fun c2 => ?_)
    · replace hF := (if_pos c2).symm.trans hF
      refine a_ldc (v := (-1000001)) kw_1136 dX11_mill_54 ?_
      replace hF := Option.some.inj hF
      subst hF
      exact a_iret rfl (Nat.zero_le _) (Nat.zero_le _) dX11_mill_56 ⟨rfl, rfl⟩
    · replace hF := (if_neg c2).symm.trans hF
      refine a_iload_n dX11_mill_29 3 rfl rfl ?_
      refine a_i2l dX11_mill_30 ?_
      refine a_lconst (v := (0 : Int64)) dX11_mill_31 (by decide) ?_
      refine a_ldc2 (v := (1000 : Int64)) kw_1163 dX11_mill_32 ?_
      obtain ⟨r35, s35, e35, hF⟩ := bd_some hF
      refine a_invS hZ.1 (As := [.long a3.toInt64, .long (0 : Int64), .long (1000 : Int64)]) (rest := []) lk_X11_126 ⟨⟨by decide, by decide⟩, by decide, by decide⟩ rfl (Nat.le_of_ble_eq_true rfl) dX11_mill_35 (m_X11_in hZ  e35) ?_
      show AW Z l iX11_mill (Pq (rI R)) 0 0 38 [(0, .ref (za Z 60 0)), (1, .int a1), (2, .int a2), (3, .int a3), (4, .int a4)] [.int r35] s35
      refine a_if_eq 54 dX11_mill_38 (by decide) (fun c3 => ?_) (fun c3 => ?_)
      · replace hF := (if_pos c3).symm.trans hF
        refine a_ldc (v := (-1000001)) kw_1136 dX11_mill_54 ?_
        replace hF := Option.some.inj hF
        subst hF
        exact a_iret rfl (Nat.zero_le _) (Nat.zero_le _) dX11_mill_56 ⟨rfl, rfl⟩
      · replace hF := (if_neg c3).symm.trans hF
        refine a_iload dX11_mill_41 4 rfl ?_
        refine a_i2l dX11_mill_43 ?_
        refine a_lconst (v := (0 : Int64)) dX11_mill_44 (by decide) ?_
        refine a_ldc2 (v := (5000 : Int64)) kw_1166 dX11_mill_45 ?_
        obtain ⟨r48, s48, e48, hF⟩ := bd_some hF
        refine a_invS hZ.1 (As := [.long a4.toInt64, .long (0 : Int64), .long (5000 : Int64)]) (rest := []) lk_X11_126 ⟨⟨by decide, by decide⟩, by decide, by decide⟩ rfl (Nat.le_of_ble_eq_true rfl) dX11_mill_48 (m_X11_in hZ  e48) ?_
        show AW Z l iX11_mill (Pq (rI R)) 0 0 51 [(0, .ref (za Z 60 0)), (1, .int a1), (2, .int a2), (3, .int a3), (4, .int a4)] [.int r48] s48
        refine a_if_ne 57 dX11_mill_51 (by decide) (fun c4 => ?_) (fun c4 => ?_)
        · replace hF := (if_neg c4).symm.trans hF
          refine a_aload_n dX11_mill_57 0 rfl rfl ?_
          refine a_getI hZ.1 (s48 60 0 15) (hZ.2 60 0 (by decide) (by decide) Nat.one_pos) fl_X11_145 rfl rfl dX11_mill_58 ?_
          refine a_bipush (v := (6 : Int32)) dX11_mill_61 (by decide) ?_
          refine a_icmp_ne 69 dX11_mill_63 (by decide) (fun c5 => ?_) (fun c5 => ?_)
          · replace hF := (if_neg c5).symm.trans hF
            refine a_aload_n dX11_mill_69 0 rfl rfl ?_
            refine a_getR hZ.1 (hZ.2 60 0 (by decide) (by decide) Nat.one_pos) fl_X11_48 rfl 0 rfl dX11_mill_70 ?_
            refine a_aload_n dX11_mill_73 0 rfl rfl ?_
            refine a_getI hZ.1 (s48 60 0 15) (hZ.2 60 0 (by decide) (by decide) Nat.one_pos) fl_X11_145 rfl rfl dX11_mill_74 ?_
            refine a_iload_n dX11_mill_77 1 rfl rfl ?_
            obtain ⟨b6, hF⟩ := gd_some hF
            refine a_iast hZ.1 (hZ.2 70 0 (by decide) (by decide) Nat.one_pos) rfl rfl (inb_vp b6) dX11_mill_78 ?_
            refine a_aload_n dX11_mill_79 0 rfl rfl ?_
            refine a_getR hZ.1 (hZ.2 60 0 (by decide) (by decide) Nat.one_pos) fl_X11_51 rfl 0 rfl dX11_mill_80 ?_
            refine a_aload_n dX11_mill_83 0 rfl rfl ?_
            refine a_getI hZ.1 (s48 60 0 15) (hZ.2 60 0 (by decide) (by decide) Nat.one_pos) fl_X11_145 rfl rfl dX11_mill_84 ?_
            refine a_iload_n dX11_mill_87 2 rfl rfl ?_
            obtain ⟨b7, hF⟩ := gd_some hF
            refine a_iast hZ.1 (hZ.2 71 0 (by decide) (by decide) Nat.one_pos) rfl rfl (inb_vp b7) dX11_mill_88 ?_
            refine a_aload_n dX11_mill_89 0 rfl rfl ?_
            refine a_getR hZ.1 (hZ.2 60 0 (by decide) (by decide) Nat.one_pos) fl_X11_54 rfl 0 rfl dX11_mill_90 ?_
            refine a_aload_n dX11_mill_93 0 rfl rfl ?_
            refine a_getI hZ.1 (s48 60 0 15) (hZ.2 60 0 (by decide) (by decide) Nat.one_pos) fl_X11_145 rfl rfl dX11_mill_94 ?_
            refine a_iload_n dX11_mill_97 3 rfl rfl ?_
            obtain ⟨b8, hF⟩ := gd_some hF
            refine a_iast hZ.1 (hZ.2 72 0 (by decide) (by decide) Nat.one_pos) rfl rfl (inb_vp b8) dX11_mill_98 ?_
            refine a_aload_n dX11_mill_99 0 rfl rfl ?_
            refine a_getR hZ.1 (hZ.2 60 0 (by decide) (by decide) Nat.one_pos) fl_X11_57 rfl 0 rfl dX11_mill_100 ?_
            refine a_aload_n dX11_mill_103 0 rfl rfl ?_
            refine a_getI hZ.1 (s48 60 0 15) (hZ.2 60 0 (by decide) (by decide) Nat.one_pos) fl_X11_145 rfl rfl dX11_mill_104 ?_
            refine a_iload dX11_mill_107 4 rfl ?_
            obtain ⟨b9, hF⟩ := gd_some hF
            refine a_iast hZ.1 (hZ.2 73 0 (by decide) (by decide) Nat.one_pos) rfl rfl (inb_vp b9) dX11_mill_109 ?_
            refine a_aload_n dX11_mill_110 0 rfl rfl ?_
            refine a_dup dX11_mill_111 rfl ?_
            refine a_getI hZ.1 (s48 60 0 15) (hZ.2 60 0 (by decide) (by decide) Nat.one_pos) fl_X11_145 rfl rfl dX11_mill_112 ?_
            refine a_iconst (v := (1 : Int32)) dX11_mill_115 (by decide) ?_
            refine a_iadd dX11_mill_116 ?_
            refine a_put hZ.1 (hZ.2 60 0 (by decide) (by decide) Nat.one_pos) fl_X11_145 rfl rfl rfl dX11_mill_117 ?_
            refine a_aload_n dX11_mill_120 0 rfl rfl ?_
            refine a_getI hZ.1 ((s48 60 0 15) + (1 : Int32)) (hZ.2 60 0 (by decide) (by decide) Nat.one_pos) fl_X11_145 rfl (by simp [up]) dX11_mill_121 ?_
            refine a_iconst (v := (1 : Int32)) dX11_mill_124 (by decide) ?_
            refine a_isub dX11_mill_125 ?_
            replace hF := Option.some.inj hF
            subst hF
            exact a_iret rfl (Nat.zero_le _) (Nat.zero_le _) dX11_mill_126 ⟨rfl, rfl⟩
          · replace hF := (if_pos c5).symm.trans hF
            refine a_ldc (v := (-1000003)) kw_1176 dX11_mill_66 ?_
            replace hF := Option.some.inj hF
            subst hF
            exact a_iret rfl (Nat.zero_le _) (Nat.zero_le _) dX11_mill_68 ⟨rfl, rfl⟩
        · replace hF := (if_pos c4).symm.trans hF
          refine a_ldc (v := (-1000001)) kw_1136 dX11_mill_54 ?_
          replace hF := Option.some.inj hF
          subst hF
          exact a_iret rfl (Nat.zero_le _) (Nat.zero_le _) dX11_mill_56 ⟨rfl, rfl⟩
theorem m_X11_mill {Z : ZE} {l : Launch} (hZ : OkM Z) {a1 : Int32} {a2 : Int32} {a3 : Int32} {a4 : Int32}  {s : St} {R : Int32 × St} (hF : F_X11_mill (zg Z) a1 a2 a3 a4 s = some R) : Sp Z l yX11_mill iX11_mill [.ref (za Z 60 0), .int a1, .int a2, .int a3, .int a4] s (rI R) :=
  Sp.of (by decide) rfl (Nat.le_of_ble_eq_true rfl) (w_X11_mill hZ  s hF)
-- X11_news
def F_X11_news (g : Nat × Nat) (a1 : Int32) (a2 : Int32) (a3 : Int32) (a4 : Int32)   (s : St) : Option (Int32 × St) := (bd (F_X11_in g a1.toInt64 (0 : Int64) (9 : Int64) (up s 60 0 0 (0 : Int32))) (fun r11 s11 => (if r11 = 0 then (some ((-1000001), s11)) else (bd (F_X11_isWeek g a2 s11) (fun r18 s18 => (if r18 = 0 then (some ((-1000001), s18)) else (bd (F_X11_in g a3.toInt64 (0 : Int64) (3 : Int64) s18) (fun r30 s30 => (if r30 = 0 then (some ((-1000001), s30)) else (bd (F_X11_in g a4.toInt64 (0 : Int64) (30 : Int64) s30) (fun r43 s43 => (if r43 = 0 then (some ((-1000001), s43)) else (if (s43 60 0 51) = (20 : Int32) then (some ((-1000003), s43)) else (gd (inb (s43 60 0 51) 20) (gd (inb (s43 60 0 51) 20) (gd (inb (s43 60 0 51) 20) (some (((s43 60 0 51) + (1 : Int32)), (up (up (up (up s43 91 0 (s43 60 0 51).toNatClampNeg a1) 92 0 (s43 60 0 51).toNatClampNeg (a2 + a4)) 93 0 (s43 60 0 51).toNatClampNeg a3) 60 0 51 ((s43 60 0 51) + (1 : Int32)))))))))))))))))))))
set_option maxRecDepth 100000 in
set_option maxHeartbeats 4000000 in
theorem w_X11_news {Z : ZE} {l : Launch} (hZ : OkM Z) {a1 : Int32} {a2 : Int32} {a3 : Int32} {a4 : Int32}  {R : Int32 × St}    (s : St) (hF : F_X11_news (zg Z) a1 a2 a3 a4  s = some R) : AW Z l iX11_news (Pq (rI R)) 0 0 0 [(0, .ref (za Z 60 0)), (1, .int a1), (2, .int a2), (3, .int a3), (4, .int a4)] [] s := by
  unfold F_X11_news at hF
  refine a_aload_n dX11_news_0 0 rfl rfl ?_
  refine a_iconst (v := (0 : Int32)) dX11_news_1 (by decide) ?_
  refine a_put hZ.1 (hZ.2 60 0 (by decide) (by decide) Nat.one_pos) fl_X11_1 rfl rfl rfl dX11_news_2 ?_
  refine a_iload_n dX11_news_5 1 rfl rfl ?_
  refine a_i2l dX11_news_6 ?_
  refine a_lconst (v := (0 : Int64)) dX11_news_7 (by decide) ?_
  refine a_ldc2 (v := (9 : Int64)) kw_1195 dX11_news_8 ?_
  obtain ⟨r11, s11, e11, hF⟩ := bd_some hF
  refine a_invS hZ.1 (As := [.long a1.toInt64, .long (0 : Int64), .long (9 : Int64)]) (rest := []) lk_X11_126 ⟨⟨by decide, by decide⟩, by decide, by decide⟩ rfl (Nat.le_of_ble_eq_true rfl) dX11_news_11 (m_X11_in hZ  e11) ?_
  show AW Z l iX11_news (Pq (rI R)) 0 0 14 [(0, .ref (za Z 60 0)), (1, .int a1), (2, .int a2), (3, .int a3), (4, .int a4)] [.int r11] s11
  refine a_if_eq 49 dX11_news_14 (by decide) (fun c1 => ?_) (fun c1 => ?_)
  · replace hF := (if_pos c1).symm.trans hF
    refine a_ldc (v := (-1000001)) kw_1136 dX11_news_49 ?_
    replace hF := Option.some.inj hF
    subst hF
    exact a_iret rfl (Nat.zero_le _) (Nat.zero_le _) dX11_news_51 ⟨rfl, rfl⟩
  · replace hF := (if_neg c1).symm.trans hF
    refine a_iload_n dX11_news_17 2 rfl rfl ?_
    obtain ⟨r18, s18, e18, hF⟩ := bd_some hF
    refine a_invS hZ.1 (As := [.int a2]) (rest := []) lk_X11_164 ⟨⟨by decide, by decide⟩, by decide, by decide⟩ rfl (Nat.le_of_ble_eq_true rfl) dX11_news_18 (m_X11_isWeek hZ  e18) ?_
    show AW Z l iX11_news (Pq (rI R)) 0 0 21 [(0, .ref (za Z 60 0)), (1, .int a1), (2, .int a2), (3, .int a3), (4, .int a4)] [.int r18] s18
    refine a_if_eq 49 dX11_news_21 (by decide) (fun c2 => ?_) (fun c2 => ?_)
    · replace hF := (if_pos c2).symm.trans hF
      refine a_ldc (v := (-1000001)) kw_1136 dX11_news_49 ?_
      replace hF := Option.some.inj hF
      subst hF
      exact a_iret rfl (Nat.zero_le _) (Nat.zero_le _) dX11_news_51 ⟨rfl, rfl⟩
    · replace hF := (if_neg c2).symm.trans hF
      refine a_iload_n dX11_news_24 3 rfl rfl ?_
      refine a_i2l dX11_news_25 ?_
      refine a_lconst (v := (0 : Int64)) dX11_news_26 (by decide) ?_
      refine a_ldc2 (v := (3 : Int64)) kw_1162 dX11_news_27 ?_
      obtain ⟨r30, s30, e30, hF⟩ := bd_some hF
      refine a_invS hZ.1 (As := [.long a3.toInt64, .long (0 : Int64), .long (3 : Int64)]) (rest := []) lk_X11_126 ⟨⟨by decide, by decide⟩, by decide, by decide⟩ rfl (Nat.le_of_ble_eq_true rfl) dX11_news_30 (m_X11_in hZ  e30) ?_
      show AW Z l iX11_news (Pq (rI R)) 0 0 33 [(0, .ref (za Z 60 0)), (1, .int a1), (2, .int a2), (3, .int a3), (4, .int a4)] [.int r30] s30
      refine a_if_eq 49 dX11_news_33 (by decide) (fun c3 => ?_) (fun c3 => ?_)
      · replace hF := (if_pos c3).symm.trans hF
        refine a_ldc (v := (-1000001)) kw_1136 dX11_news_49 ?_
        replace hF := Option.some.inj hF
        subst hF
        exact a_iret rfl (Nat.zero_le _) (Nat.zero_le _) dX11_news_51 ⟨rfl, rfl⟩
      · replace hF := (if_neg c3).symm.trans hF
        refine a_iload dX11_news_36 4 rfl ?_
        refine a_i2l dX11_news_38 ?_
        refine a_lconst (v := (0 : Int64)) dX11_news_39 (by decide) ?_
        refine a_ldc2 (v := (30 : Int64)) kw_1355 dX11_news_40 ?_
        obtain ⟨r43, s43, e43, hF⟩ := bd_some hF
        refine a_invS hZ.1 (As := [.long a4.toInt64, .long (0 : Int64), .long (30 : Int64)]) (rest := []) lk_X11_126 ⟨⟨by decide, by decide⟩, by decide, by decide⟩ rfl (Nat.le_of_ble_eq_true rfl) dX11_news_43 (m_X11_in hZ  e43) ?_
        show AW Z l iX11_news (Pq (rI R)) 0 0 46 [(0, .ref (za Z 60 0)), (1, .int a1), (2, .int a2), (3, .int a3), (4, .int a4)] [.int r43] s43
        refine a_if_ne 52 dX11_news_46 (by decide) (fun c4 => ?_) (fun c4 => ?_)
        · replace hF := (if_neg c4).symm.trans hF
          refine a_aload_n dX11_news_52 0 rfl rfl ?_
          refine a_getI hZ.1 (s43 60 0 51) (hZ.2 60 0 (by decide) (by decide) Nat.one_pos) fl_X11_334 rfl rfl dX11_news_53 ?_
          refine a_bipush (v := (20 : Int32)) dX11_news_56 (by decide) ?_
          refine a_icmp_ne 64 dX11_news_58 (by decide) (fun c5 => ?_) (fun c5 => ?_)
          · replace hF := (if_neg c5).symm.trans hF
            refine a_aload_n dX11_news_64 0 rfl rfl ?_
            refine a_getR hZ.1 (hZ.2 60 0 (by decide) (by decide) Nat.one_pos) fl_X11_112 rfl 0 rfl dX11_news_65 ?_
            refine a_aload_n dX11_news_68 0 rfl rfl ?_
            refine a_getI hZ.1 (s43 60 0 51) (hZ.2 60 0 (by decide) (by decide) Nat.one_pos) fl_X11_334 rfl rfl dX11_news_69 ?_
            refine a_iload_n dX11_news_72 1 rfl rfl ?_
            obtain ⟨b6, hF⟩ := gd_some hF
            refine a_iast hZ.1 (hZ.2 91 0 (by decide) (by decide) Nat.one_pos) rfl rfl (inb_vp b6) dX11_news_73 ?_
            refine a_aload_n dX11_news_74 0 rfl rfl ?_
            refine a_getR hZ.1 (hZ.2 60 0 (by decide) (by decide) Nat.one_pos) fl_X11_115 rfl 0 rfl dX11_news_75 ?_
            refine a_aload_n dX11_news_78 0 rfl rfl ?_
            refine a_getI hZ.1 (s43 60 0 51) (hZ.2 60 0 (by decide) (by decide) Nat.one_pos) fl_X11_334 rfl rfl dX11_news_79 ?_
            refine a_iload_n dX11_news_82 2 rfl rfl ?_
            refine a_iload dX11_news_83 4 rfl ?_
            refine a_iadd dX11_news_85 ?_
            obtain ⟨b7, hF⟩ := gd_some hF
            refine a_iast hZ.1 (hZ.2 92 0 (by decide) (by decide) Nat.one_pos) rfl rfl (inb_vp b7) dX11_news_86 ?_
            refine a_aload_n dX11_news_87 0 rfl rfl ?_
            refine a_getR hZ.1 (hZ.2 60 0 (by decide) (by decide) Nat.one_pos) fl_X11_118 rfl 0 rfl dX11_news_88 ?_
            refine a_aload_n dX11_news_91 0 rfl rfl ?_
            refine a_getI hZ.1 (s43 60 0 51) (hZ.2 60 0 (by decide) (by decide) Nat.one_pos) fl_X11_334 rfl rfl dX11_news_92 ?_
            refine a_iload_n dX11_news_95 3 rfl rfl ?_
            obtain ⟨b8, hF⟩ := gd_some hF
            refine a_iast hZ.1 (hZ.2 93 0 (by decide) (by decide) Nat.one_pos) rfl rfl (inb_vp b8) dX11_news_96 ?_
            refine a_aload_n dX11_news_97 0 rfl rfl ?_
            refine a_dup dX11_news_98 rfl ?_
            refine a_getI hZ.1 (s43 60 0 51) (hZ.2 60 0 (by decide) (by decide) Nat.one_pos) fl_X11_334 rfl rfl dX11_news_99 ?_
            refine a_iconst (v := (1 : Int32)) dX11_news_102 (by decide) ?_
            refine a_iadd dX11_news_103 ?_
            refine a_put hZ.1 (hZ.2 60 0 (by decide) (by decide) Nat.one_pos) fl_X11_334 rfl rfl rfl dX11_news_104 ?_
            refine a_aload_n dX11_news_107 0 rfl rfl ?_
            refine a_getI hZ.1 ((s43 60 0 51) + (1 : Int32)) (hZ.2 60 0 (by decide) (by decide) Nat.one_pos) fl_X11_334 rfl (by simp [up]) dX11_news_108 ?_
            replace hF := Option.some.inj hF
            subst hF
            exact a_iret rfl (Nat.zero_le _) (Nat.zero_le _) dX11_news_111 ⟨rfl, rfl⟩
          · replace hF := (if_pos c5).symm.trans hF
            refine a_ldc (v := (-1000003)) kw_1176 dX11_news_61 ?_
            replace hF := Option.some.inj hF
            subst hF
            exact a_iret rfl (Nat.zero_le _) (Nat.zero_le _) dX11_news_63 ⟨rfl, rfl⟩
        · replace hF := (if_pos c4).symm.trans hF
          refine a_ldc (v := (-1000001)) kw_1136 dX11_news_49 ?_
          replace hF := Option.some.inj hF
          subst hF
          exact a_iret rfl (Nat.zero_le _) (Nat.zero_le _) dX11_news_51 ⟨rfl, rfl⟩
theorem m_X11_news {Z : ZE} {l : Launch} (hZ : OkM Z) {a1 : Int32} {a2 : Int32} {a3 : Int32} {a4 : Int32}  {s : St} {R : Int32 × St} (hF : F_X11_news (zg Z) a1 a2 a3 a4 s = some R) : Sp Z l yX11_news iX11_news [.ref (za Z 60 0), .int a1, .int a2, .int a3, .int a4] s (rI R) :=
  Sp.of (by decide) rfl (Nat.le_of_ble_eq_true rfl) (w_X11_news hZ  s hF)
-- X11_paid
def F_X11_paid_447 (g : Nat × Nat) (a1 : Int32) (a2 : Int32) (a3 : Int32) (a4 : Int32)  (v7 : Int32) (s : St) : Option (Int32 × St) := (if a4 = a3 then (some (v7, s)) else (gd (inb a4 8) (some ((s 85 0 a4.toNatClampNeg), s))))
set_option maxRecDepth 100000 in
set_option maxHeartbeats 4000000 in
theorem w_X11_paid_447 {Z : ZE} {l : Launch} (hZ : OkM Z) {a1 : Int32} {a2 : Int32} {a3 : Int32} {a4 : Int32}  {R : Int32 × St}  (v7 : Int32)  (s : St) (hF : F_X11_paid_447 (zg Z) a1 a2 a3 a4 v7 s = some R) : AW Z l iX11_paid (Pq (rI R)) 0 0 447 [(0, .ref (za Z 60 0)), (3, .int a3), (4, .int a4), (7, .int v7)] [] s := by
  unfold F_X11_paid_447 at hF
  refine a_iload dX11_paid_447 2 rfl ?_
  refine a_iload_n dX11_paid_449 1 rfl rfl ?_
  refine a_icmp_ne 458 dX11_paid_450 (by decide) (fun c1 => ?_) (fun c1 => ?_)
  · replace hF := (if_neg c1).symm.trans hF
    refine a_aload_n dX11_paid_458 0 rfl rfl ?_
    refine a_getR hZ.1 (hZ.2 60 0 (by decide) (by decide) Nat.one_pos) fl_X11_94 rfl 0 rfl dX11_paid_459 ?_
    refine a_iload dX11_paid_462 2 rfl ?_
    obtain ⟨b2, hF⟩ := gd_some hF
    refine a_iald hZ.1 (s 85 0 a4.toNatClampNeg) (hZ.2 85 0 (by decide) (by decide) Nat.one_pos) rfl rfl (inb_vp b2) rfl dX11_paid_464 ?_
    replace hF := Option.some.inj hF
    subst hF
    exact a_iret rfl (Nat.zero_le _) (Nat.zero_le _) dX11_paid_465 ⟨rfl, rfl⟩
  · replace hF := (if_pos c1).symm.trans hF
    refine a_iload dX11_paid_453 3 rfl ?_
    refine a_goto 465 dX11_paid_455 (by decide) ?_
    replace hF := Option.some.inj hF
    subst hF
    exact a_iret rfl (Nat.zero_le _) (Nat.zero_le _) dX11_paid_465 ⟨rfl, rfl⟩
def F_X11_paid_441 (g : Nat × Nat) (a1 : Int32) (a2 : Int32) (a3 : Int32) (a4 : Int32) (h238_ : Int32 → Int32 → Int32 → St → Option (Int32 × St)) (h447_ : Int32 → St → Option (Int32 × St)) (v6 : Int32) (v8 : Int32) (x0 : Int32) (x1 : Int32) (s : St) : Option (Int32 × St) := (h238_ v6 (x0 + x1) v8 s)
set_option maxRecDepth 100000 in
set_option maxHeartbeats 4000000 in
theorem w_X11_paid_441 {Z : ZE} {l : Launch} (hZ : OkM Z) {a1 : Int32} {a2 : Int32} {a3 : Int32} {a4 : Int32}  {R : Int32 × St} (h238_ : Int32 → Int32 → Int32 → St → Option (Int32 × St)) (w238_ : ∀ (v6 : Int32) (v7 : Int32) (v8 : Int32)  (s : St), h238_ v6 v7 v8 s = some R → AW Z l iX11_paid (Pq (rI R)) 0 0 238 [(0, .ref (za Z 60 0)), (3, .int a3), (4, .int a4), (6, .int v6), (7, .int v7), (8, .int v8)] [] s) (h447_ : Int32 → St → Option (Int32 × St)) (w447_ : ∀ (v7 : Int32)  (s : St), h447_ v7 s = some R → AW Z l iX11_paid (Pq (rI R)) 0 0 447 [(0, .ref (za Z 60 0)), (3, .int a3), (4, .int a4), (7, .int v7)] [] s) (v6 : Int32) (v8 : Int32) (x0 : Int32) (x1 : Int32)  (s : St) (hF : F_X11_paid_441 (zg Z) a1 a2 a3 a4 h238_ h447_ v6 v8 x0 x1 s = some R) : AW Z l iX11_paid (Pq (rI R)) 0 0 441 [(0, .ref (za Z 60 0)), (3, .int a3), (4, .int a4), (6, .int v6), (8, .int v8)] [.int x1, .int x0] s := by
  unfold F_X11_paid_441 at hF
  refine a_iadd dX11_paid_441 ?_
  refine a_istore [(7, .int (x0 + x1)), (0, .ref (za Z 60 0)), (3, .int a3), (4, .int a4), (6, .int v6), (8, .int v8)] dX11_paid_442 (by decide) rfl ?_
  refine a_goto 238 dX11_paid_444 (by decide) ?_
  refine a_loc [(0, .ref (za Z 60 0)), (3, .int a3), (4, .int a4), (6, .int v6), (7, .int (x0 + x1)), (8, .int v8)] [1, 2, 3, 4, 0, 5] rfl ?_
  exact w238_ v6 (x0 + x1) v8  _ hF
def F_X11_paid_429 (g : Nat × Nat) (a1 : Int32) (a2 : Int32) (a3 : Int32) (a4 : Int32) (h238_ : Int32 → Int32 → Int32 → St → Option (Int32 × St)) (h447_ : Int32 → St → Option (Int32 × St)) (v6 : Int32) (v7 : Int32) (v8 : Int32) (s : St) : Option (Int32 × St) := (if v8 = 0 then (F_X11_paid_441 g a1 a2 a3 a4 h238_ h447_ v6 v8 v7 (0 : Int32) s) else (F_X11_paid_441 g a1 a2 a3 a4 h238_ h447_ v6 v8 v7 (1 : Int32) s))
set_option maxRecDepth 100000 in
set_option maxHeartbeats 4000000 in
theorem w_X11_paid_429 {Z : ZE} {l : Launch} (hZ : OkM Z) {a1 : Int32} {a2 : Int32} {a3 : Int32} {a4 : Int32}  {R : Int32 × St} (h238_ : Int32 → Int32 → Int32 → St → Option (Int32 × St)) (w238_ : ∀ (v6 : Int32) (v7 : Int32) (v8 : Int32)  (s : St), h238_ v6 v7 v8 s = some R → AW Z l iX11_paid (Pq (rI R)) 0 0 238 [(0, .ref (za Z 60 0)), (3, .int a3), (4, .int a4), (6, .int v6), (7, .int v7), (8, .int v8)] [] s) (h447_ : Int32 → St → Option (Int32 × St)) (w447_ : ∀ (v7 : Int32)  (s : St), h447_ v7 s = some R → AW Z l iX11_paid (Pq (rI R)) 0 0 447 [(0, .ref (za Z 60 0)), (3, .int a3), (4, .int a4), (7, .int v7)] [] s) (v6 : Int32) (v7 : Int32) (v8 : Int32)  (s : St) (hF : F_X11_paid_429 (zg Z) a1 a2 a3 a4 h238_ h447_ v6 v7 v8 s = some R) : AW Z l iX11_paid (Pq (rI R)) 0 0 429 [(0, .ref (za Z 60 0)), (3, .int a3), (4, .int a4), (6, .int v6), (7, .int v7), (8, .int v8)] [] s := by
  unfold F_X11_paid_429 at hF
  refine a_iload dX11_paid_429 4 rfl ?_
  refine a_iload dX11_paid_431 5 rfl ?_
  refine a_if_eq 440 dX11_paid_433 (by decide) (fun c1 => ?_) (fun c1 => ?_)
  · replace hF := (if_pos c1).symm.trans hF
    refine a_iconst (v := (0 : Int32)) dX11_paid_440 (by decide) ?_
    refine a_loc [(0, .ref (za Z 60 0)), (3, .int a3), (4, .int a4), (6, .int v6), (8, .int v8)] [0, 1, 2, 3, 5] rfl ?_
    exact w_X11_paid_441 (l := l) hZ  h238_ w238_ h447_ w447_ v6 v8 v7 (0 : Int32)  _ hF
  · replace hF := (if_neg c1).symm.trans hF
    refine a_iconst (v := (1 : Int32)) dX11_paid_436 (by decide) ?_
    refine a_goto 441 dX11_paid_437 (by decide) ?_
    refine a_loc [(0, .ref (za Z 60 0)), (3, .int a3), (4, .int a4), (6, .int v6), (8, .int v8)] [0, 1, 2, 3, 5] rfl ?_
    exact w_X11_paid_441 (l := l) hZ  h238_ w238_ h447_ w447_ v6 v8 v7 (1 : Int32)  _ hF
def F_X11_paid_407 (g : Nat × Nat) (a1 : Int32) (a2 : Int32) (a3 : Int32) (a4 : Int32) (h374_ : Int32 → Int32 → Int32 → Int32 → St → Option (Int32 × St)) (h429_ : Int32 → Int32 → Int32 → St → Option (Int32 × St)) (v6 : Int32) (v7 : Int32) (v9 : Int32) (x0 : Int32) (s : St) : Option (Int32 × St) := (gd (inb v9 8) (gd (inb v9 8) (h374_ v6 v7 x0 (v9 + 1) (up s 85 0 v9.toNatClampNeg (s 86 0 v9.toNatClampNeg)))))
set_option maxRecDepth 100000 in
set_option maxHeartbeats 4000000 in
theorem w_X11_paid_407 {Z : ZE} {l : Launch} (hZ : OkM Z) {a1 : Int32} {a2 : Int32} {a3 : Int32} {a4 : Int32}  {R : Int32 × St} (h374_ : Int32 → Int32 → Int32 → Int32 → St → Option (Int32 × St)) (w374_ : ∀ (v6 : Int32) (v7 : Int32) (v8 : Int32) (v9 : Int32)  (s : St), h374_ v6 v7 v8 v9 s = some R → AW Z l iX11_paid (Pq (rI R)) 0 0 374 [(0, .ref (za Z 60 0)), (3, .int a3), (4, .int a4), (6, .int v6), (7, .int v7), (8, .int v8), (9, .int v9)] [] s) (h429_ : Int32 → Int32 → Int32 → St → Option (Int32 × St)) (w429_ : ∀ (v6 : Int32) (v7 : Int32) (v8 : Int32)  (s : St), h429_ v6 v7 v8 s = some R → AW Z l iX11_paid (Pq (rI R)) 0 0 429 [(0, .ref (za Z 60 0)), (3, .int a3), (4, .int a4), (6, .int v6), (7, .int v7), (8, .int v8)] [] s) (v6 : Int32) (v7 : Int32) (v9 : Int32) (x0 : Int32)  (s : St) (hF : F_X11_paid_407 (zg Z) a1 a2 a3 a4 h374_ h429_ v6 v7 v9 x0 s = some R) : AW Z l iX11_paid (Pq (rI R)) 0 0 407 [(0, .ref (za Z 60 0)), (3, .int a3), (4, .int a4), (6, .int v6), (7, .int v7), (9, .int v9)] [.int x0] s := by
  unfold F_X11_paid_407 at hF
  refine a_istore [(8, .int x0), (0, .ref (za Z 60 0)), (3, .int a3), (4, .int a4), (6, .int v6), (7, .int v7), (9, .int v9)] dX11_paid_407 (by decide) rfl ?_
  refine a_aload_n dX11_paid_409 1 rfl rfl ?_
  refine a_getR hZ.1 (hZ.2 60 0 (by decide) (by decide) Nat.one_pos) fl_X11_94 rfl 0 rfl dX11_paid_410 ?_
  refine a_iload dX11_paid_413 6 rfl ?_
  refine a_aload_n dX11_paid_415 1 rfl rfl ?_
  refine a_getR hZ.1 (hZ.2 60 0 (by decide) (by decide) Nat.one_pos) fl_X11_97 rfl 0 rfl dX11_paid_416 ?_
  refine a_iload dX11_paid_419 6 rfl ?_
  obtain ⟨b1, hF⟩ := gd_some hF
  refine a_iald hZ.1 (s 86 0 v9.toNatClampNeg) (hZ.2 86 0 (by decide) (by decide) Nat.one_pos) rfl rfl (inb_vp b1) rfl dX11_paid_421 ?_
  obtain ⟨b2, hF⟩ := gd_some hF
  refine a_iast hZ.1 (hZ.2 85 0 (by decide) (by decide) Nat.one_pos) rfl rfl (inb_vp b2) dX11_paid_422 ?_
  refine a_iinc [(9, .int (v9 + 1)), (8, .int x0), (0, .ref (za Z 60 0)), (3, .int a3), (4, .int a4), (6, .int v6), (7, .int v7)] dX11_paid_423 6 rfl rfl (by decide) rfl ?_
  refine a_goto 374 dX11_paid_426 (by decide) ?_
  refine a_loc [(0, .ref (za Z 60 0)), (3, .int a3), (4, .int a4), (6, .int v6), (7, .int v7), (8, .int x0), (9, .int (v9 + 1))] [2, 3, 4, 5, 6, 1, 0] rfl ?_
  exact w374_ v6 v7 x0 (v9 + 1)  _ hF
def F_X11_paid_402 (g : Nat × Nat) (a1 : Int32) (a2 : Int32) (a3 : Int32) (a4 : Int32) (h374_ : Int32 → Int32 → Int32 → Int32 → St → Option (Int32 × St)) (h429_ : Int32 → Int32 → Int32 → St → Option (Int32 × St)) (v6 : Int32) (v7 : Int32) (v9 : Int32) (s : St) : Option (Int32 × St) := (F_X11_paid_407 g a1 a2 a3 a4 h374_ h429_ v6 v7 v9 (1 : Int32) s)
set_option maxRecDepth 100000 in
set_option maxHeartbeats 4000000 in
theorem w_X11_paid_402 {Z : ZE} {l : Launch} (hZ : OkM Z) {a1 : Int32} {a2 : Int32} {a3 : Int32} {a4 : Int32}  {R : Int32 × St} (h374_ : Int32 → Int32 → Int32 → Int32 → St → Option (Int32 × St)) (w374_ : ∀ (v6 : Int32) (v7 : Int32) (v8 : Int32) (v9 : Int32)  (s : St), h374_ v6 v7 v8 v9 s = some R → AW Z l iX11_paid (Pq (rI R)) 0 0 374 [(0, .ref (za Z 60 0)), (3, .int a3), (4, .int a4), (6, .int v6), (7, .int v7), (8, .int v8), (9, .int v9)] [] s) (h429_ : Int32 → Int32 → Int32 → St → Option (Int32 × St)) (w429_ : ∀ (v6 : Int32) (v7 : Int32) (v8 : Int32)  (s : St), h429_ v6 v7 v8 s = some R → AW Z l iX11_paid (Pq (rI R)) 0 0 429 [(0, .ref (za Z 60 0)), (3, .int a3), (4, .int a4), (6, .int v6), (7, .int v7), (8, .int v8)] [] s) (v6 : Int32) (v7 : Int32) (v9 : Int32)  (s : St) (hF : F_X11_paid_402 (zg Z) a1 a2 a3 a4 h374_ h429_ v6 v7 v9 s = some R) : AW Z l iX11_paid (Pq (rI R)) 0 0 402 [(0, .ref (za Z 60 0)), (3, .int a3), (4, .int a4), (6, .int v6), (7, .int v7), (9, .int v9)] [] s := by
  unfold F_X11_paid_402 at hF
  refine a_iconst (v := (1 : Int32)) dX11_paid_402 (by decide) ?_
  refine a_goto 407 dX11_paid_403 (by decide) ?_
  exact w_X11_paid_407 (l := l) hZ  h374_ w374_ h429_ w429_ v6 v7 v9 (1 : Int32)  _ hF
def F_X11_paid_374 (g : Nat × Nat) (a1 : Int32) (a2 : Int32) (a3 : Int32) (a4 : Int32) (h429_ : Int32 → Int32 → Int32 → St → Option (Int32 × St)) : Nat → Int32 → Int32 → Int32 → Int32 → St → Option (Int32 × St)
  | 0, _, _, _, _, _ => none
  | n_ + 1, v6, v7, v8, v9, s => (if a3 ≤ v9 then (h429_ v6 v7 v8 s) else (if v8 = 0 then (gd (inb v9 8) (gd (inb v9 8) (if (s 86 0 v9.toNatClampNeg) = (s 85 0 v9.toNatClampNeg) then (F_X11_paid_407 g a1 a2 a3 a4 (F_X11_paid_374 g a1 a2 a3 a4 h429_ n_) h429_ v6 v7 v9 (0 : Int32) s) else (F_X11_paid_402 g a1 a2 a3 a4 (F_X11_paid_374 g a1 a2 a3 a4 h429_ n_) h429_ v6 v7 v9 s)))) else (F_X11_paid_402 g a1 a2 a3 a4 (F_X11_paid_374 g a1 a2 a3 a4 h429_ n_) h429_ v6 v7 v9 s)))
set_option maxRecDepth 100000 in
set_option maxHeartbeats 4000000 in
theorem w_X11_paid_374 {Z : ZE} {l : Launch} (hZ : OkM Z) {a1 : Int32} {a2 : Int32} {a3 : Int32} {a4 : Int32}  {R : Int32 × St} (h429_ : Int32 → Int32 → Int32 → St → Option (Int32 × St)) (w429_ : ∀ (v6 : Int32) (v7 : Int32) (v8 : Int32)  (s : St), h429_ v6 v7 v8 s = some R → AW Z l iX11_paid (Pq (rI R)) 0 0 429 [(0, .ref (za Z 60 0)), (3, .int a3), (4, .int a4), (6, .int v6), (7, .int v7), (8, .int v8)] [] s) : ∀ (n_ : Nat) (v6 : Int32) (v7 : Int32) (v8 : Int32) (v9 : Int32)  (s : St), F_X11_paid_374 (zg Z) a1 a2 a3 a4 h429_ n_ v6 v7 v8 v9 s = some R → AW Z l iX11_paid (Pq (rI R)) 0 0 374 [(0, .ref (za Z 60 0)), (3, .int a3), (4, .int a4), (6, .int v6), (7, .int v7), (8, .int v8), (9, .int v9)] [] s := by
  intro n_
  induction n_ with
  | zero =>
    intro v6 v7 v8 v9 s hF
    exact absurd hF (by rw [F_X11_paid_374]; exact fun q => by cases q)
  | succ n_ w374_ =>
    intro v6 v7 v8 v9 s hF
    rw [F_X11_paid_374] at hF
    refine a_iload dX11_paid_374 6 rfl ?_
    refine a_iload_n dX11_paid_376 1 rfl rfl ?_
    refine a_icmp_ge 429 dX11_paid_377 (by decide) (fun c1 => ?_) (fun c1 => ?_)
    · replace hF := (if_pos c1).symm.trans hF
      refine a_loc [(0, .ref (za Z 60 0)), (3, .int a3), (4, .int a4), (6, .int v6), (7, .int v7), (8, .int v8)] [0, 1, 2, 3, 4, 5] rfl ?_
      exact w429_ v6 v7 v8  _ hF
    · replace hF := (if_neg c1).symm.trans hF
      refine a_iload dX11_paid_380 5 rfl ?_
      refine a_if_ne 402 dX11_paid_382 (by decide) (fun c2 => ?_) (fun c2 => ?_)
      · replace hF := (if_neg c2).symm.trans hF
        refine a_loc [(0, .ref (za Z 60 0)), (3, .int a3), (4, .int a4), (6, .int v6), (7, .int v7), (9, .int v9)] [0, 1, 2, 3, 4, 6] rfl ?_
        exact w_X11_paid_402 (l := l) hZ  (F_X11_paid_374 (zg Z) a1 a2 a3 a4 h429_ n_) w374_ h429_ w429_ v6 v7 v9  _ hF
      · replace hF := (if_pos c2).symm.trans hF
        refine a_aload_n dX11_paid_385 0 rfl rfl ?_
        refine a_getR hZ.1 (hZ.2 60 0 (by decide) (by decide) Nat.one_pos) fl_X11_97 rfl 0 rfl dX11_paid_386 ?_
        refine a_iload dX11_paid_389 6 rfl ?_
        obtain ⟨b3, hF⟩ := gd_some hF
        refine a_iald hZ.1 (s 86 0 v9.toNatClampNeg) (hZ.2 86 0 (by decide) (by decide) Nat.one_pos) rfl rfl (inb_vp b3) rfl dX11_paid_391 ?_
        refine a_aload_n dX11_paid_392 0 rfl rfl ?_
        refine a_getR hZ.1 (hZ.2 60 0 (by decide) (by decide) Nat.one_pos) fl_X11_94 rfl 0 rfl dX11_paid_393 ?_
        refine a_iload dX11_paid_396 6 rfl ?_
        obtain ⟨b4, hF⟩ := gd_some hF
        refine a_iald hZ.1 (s 85 0 v9.toNatClampNeg) (hZ.2 85 0 (by decide) (by decide) Nat.one_pos) rfl rfl (inb_vp b4) rfl dX11_paid_398 ?_
        refine a_icmp_eq 406 dX11_paid_399 (by decide) (fun c5 => ?_) (fun c5 => ?_)
        · replace hF := (if_pos c5).symm.trans hF
          refine a_iconst (v := (0 : Int32)) dX11_paid_406 (by decide) ?_
          refine a_loc [(0, .ref (za Z 60 0)), (3, .int a3), (4, .int a4), (6, .int v6), (7, .int v7), (9, .int v9)] [0, 1, 2, 3, 4, 6] rfl ?_
          exact w_X11_paid_407 (l := l) hZ  (F_X11_paid_374 (zg Z) a1 a2 a3 a4 h429_ n_) w374_ h429_ w429_ v6 v7 v9 (0 : Int32)  _ hF
        · replace hF := (if_neg c5).symm.trans hF
          refine a_loc [(0, .ref (za Z 60 0)), (3, .int a3), (4, .int a4), (6, .int v6), (7, .int v7), (9, .int v9)] [0, 1, 2, 3, 4, 6] rfl ?_
          exact w_X11_paid_402 (l := l) hZ  (F_X11_paid_374 (zg Z) a1 a2 a3 a4 h429_ n_) w374_ h429_ w429_ v6 v7 v9  _ hF
def F_X11_paid_371 (g : Nat × Nat) (a1 : Int32) (a2 : Int32) (a3 : Int32) (a4 : Int32) (h238_ : Int32 → Int32 → Int32 → St → Option (Int32 × St)) (h447_ : Int32 → St → Option (Int32 × St)) (v6 : Int32) (v7 : Int32) (v8 : Int32) (s : St) : Option (Int32 × St) := ((F_X11_paid_374 g a1 a2 a3 a4 (F_X11_paid_429 g a1 a2 a3 a4 h238_ h447_) fu) v6 v7 v8 (0 : Int32) s)
set_option maxRecDepth 100000 in
set_option maxHeartbeats 4000000 in
theorem w_X11_paid_371 {Z : ZE} {l : Launch} (hZ : OkM Z) {a1 : Int32} {a2 : Int32} {a3 : Int32} {a4 : Int32}  {R : Int32 × St} (h238_ : Int32 → Int32 → Int32 → St → Option (Int32 × St)) (w238_ : ∀ (v6 : Int32) (v7 : Int32) (v8 : Int32)  (s : St), h238_ v6 v7 v8 s = some R → AW Z l iX11_paid (Pq (rI R)) 0 0 238 [(0, .ref (za Z 60 0)), (3, .int a3), (4, .int a4), (6, .int v6), (7, .int v7), (8, .int v8)] [] s) (h447_ : Int32 → St → Option (Int32 × St)) (w447_ : ∀ (v7 : Int32)  (s : St), h447_ v7 s = some R → AW Z l iX11_paid (Pq (rI R)) 0 0 447 [(0, .ref (za Z 60 0)), (3, .int a3), (4, .int a4), (7, .int v7)] [] s) (v6 : Int32) (v7 : Int32) (v8 : Int32)  (s : St) (hF : F_X11_paid_371 (zg Z) a1 a2 a3 a4 h238_ h447_ v6 v7 v8 s = some R) : AW Z l iX11_paid (Pq (rI R)) 0 0 371 [(0, .ref (za Z 60 0)), (3, .int a3), (4, .int a4), (6, .int v6), (7, .int v7), (8, .int v8)] [] s := by
  unfold F_X11_paid_371 at hF
  refine a_iconst (v := (0 : Int32)) dX11_paid_371 (by decide) ?_
  refine a_istore [(9, .int (0 : Int32)), (0, .ref (za Z 60 0)), (3, .int a3), (4, .int a4), (6, .int v6), (7, .int v7), (8, .int v8)] dX11_paid_372 (by decide) rfl ?_
  refine a_loc [(0, .ref (za Z 60 0)), (3, .int a3), (4, .int a4), (6, .int v6), (7, .int v7), (8, .int v8), (9, .int (0 : Int32))] [1, 2, 3, 4, 5, 6, 0] rfl ?_
  exact w_X11_paid_374 (l := l) hZ  (F_X11_paid_429 (zg Z) a1 a2 a3 a4 h238_ h447_) (w_X11_paid_429 (l := l) hZ  h238_ w238_ h447_ w447_) fu v6 v7 v8 (0 : Int32)  _ hF
def F_X11_paid_364 (g : Nat × Nat) (a1 : Int32) (a2 : Int32) (a3 : Int32) (a4 : Int32) (h249_ : Int32 → Int32 → Int32 → Int32 → St → Option (Int32 × St)) (h371_ : Int32 → Int32 → Int32 → St → Option (Int32 × St)) (v6 : Int32) (v7 : Int32) (v8 : Int32) (v9 : Int32) (x1 : Int32) (x2 : Int32) (s : St) : Option (Int32 × St) := (gd (inb x1 8) (h249_ v6 v7 v8 (v9 + 1) (up s 86 0 x1.toNatClampNeg x2)))
set_option maxRecDepth 100000 in
set_option maxHeartbeats 4000000 in
theorem w_X11_paid_364 {Z : ZE} {l : Launch} (hZ : OkM Z) {a1 : Int32} {a2 : Int32} {a3 : Int32} {a4 : Int32}  {R : Int32 × St} (h249_ : Int32 → Int32 → Int32 → Int32 → St → Option (Int32 × St)) (w249_ : ∀ (v6 : Int32) (v7 : Int32) (v8 : Int32) (v9 : Int32)  (s : St), h249_ v6 v7 v8 v9 s = some R → AW Z l iX11_paid (Pq (rI R)) 0 0 249 [(0, .ref (za Z 60 0)), (3, .int a3), (4, .int a4), (6, .int v6), (7, .int v7), (8, .int v8), (9, .int v9)] [] s) (h371_ : Int32 → Int32 → Int32 → St → Option (Int32 × St)) (w371_ : ∀ (v6 : Int32) (v7 : Int32) (v8 : Int32)  (s : St), h371_ v6 v7 v8 s = some R → AW Z l iX11_paid (Pq (rI R)) 0 0 371 [(0, .ref (za Z 60 0)), (3, .int a3), (4, .int a4), (6, .int v6), (7, .int v7), (8, .int v8)] [] s) (v6 : Int32) (v7 : Int32) (v8 : Int32) (v9 : Int32) (x1 : Int32) (x2 : Int32)  (s : St) (hF : F_X11_paid_364 (zg Z) a1 a2 a3 a4 h249_ h371_ v6 v7 v8 v9 x1 x2 s = some R) : AW Z l iX11_paid (Pq (rI R)) 0 0 364 [(0, .ref (za Z 60 0)), (3, .int a3), (4, .int a4), (6, .int v6), (7, .int v7), (8, .int v8), (9, .int v9)] [.int x2, .int x1, .ref (za Z 86 0)] s := by
  unfold F_X11_paid_364 at hF
  obtain ⟨b1, hF⟩ := gd_some hF
  refine a_iast hZ.1 (hZ.2 86 0 (by decide) (by decide) Nat.one_pos) rfl rfl (inb_vp b1) dX11_paid_364 ?_
  refine a_iinc [(9, .int (v9 + 1)), (0, .ref (za Z 60 0)), (3, .int a3), (4, .int a4), (6, .int v6), (7, .int v7), (8, .int v8)] dX11_paid_365 6 rfl rfl (by decide) rfl ?_
  refine a_goto 249 dX11_paid_368 (by decide) ?_
  refine a_loc [(0, .ref (za Z 60 0)), (3, .int a3), (4, .int a4), (6, .int v6), (7, .int v7), (8, .int v8), (9, .int (v9 + 1))] [1, 2, 3, 4, 5, 6, 0] rfl ?_
  exact w249_ v6 v7 v8 (v9 + 1)  _ hF
def F_X11_paid_334 (g : Nat × Nat) (a1 : Int32) (a2 : Int32) (a3 : Int32) (a4 : Int32) (h249_ : Int32 → Int32 → Int32 → Int32 → St → Option (Int32 × St)) (h371_ : Int32 → Int32 → Int32 → St → Option (Int32 × St)) (v6 : Int32) (v7 : Int32) (v8 : Int32) (v9 : Int32) (v10 : Int32) (s : St) : Option (Int32 × St) := (gd (inb v9 8) (if (s 87 0 v9.toNatClampNeg) ≤ v10 then (gd (inb v9 8) (F_X11_paid_364 g a1 a2 a3 a4 h249_ h371_ v6 v7 v8 v9 v9 (s 87 0 v9.toNatClampNeg) s)) else (F_X11_paid_364 g a1 a2 a3 a4 h249_ h371_ v6 v7 v8 v9 v9 v10 s)))
set_option maxRecDepth 100000 in
set_option maxHeartbeats 4000000 in
theorem w_X11_paid_334 {Z : ZE} {l : Launch} (hZ : OkM Z) {a1 : Int32} {a2 : Int32} {a3 : Int32} {a4 : Int32}  {R : Int32 × St} (h249_ : Int32 → Int32 → Int32 → Int32 → St → Option (Int32 × St)) (w249_ : ∀ (v6 : Int32) (v7 : Int32) (v8 : Int32) (v9 : Int32)  (s : St), h249_ v6 v7 v8 v9 s = some R → AW Z l iX11_paid (Pq (rI R)) 0 0 249 [(0, .ref (za Z 60 0)), (3, .int a3), (4, .int a4), (6, .int v6), (7, .int v7), (8, .int v8), (9, .int v9)] [] s) (h371_ : Int32 → Int32 → Int32 → St → Option (Int32 × St)) (w371_ : ∀ (v6 : Int32) (v7 : Int32) (v8 : Int32)  (s : St), h371_ v6 v7 v8 s = some R → AW Z l iX11_paid (Pq (rI R)) 0 0 371 [(0, .ref (za Z 60 0)), (3, .int a3), (4, .int a4), (6, .int v6), (7, .int v7), (8, .int v8)] [] s) (v6 : Int32) (v7 : Int32) (v8 : Int32) (v9 : Int32) (v10 : Int32)  (s : St) (hF : F_X11_paid_334 (zg Z) a1 a2 a3 a4 h249_ h371_ v6 v7 v8 v9 v10 s = some R) : AW Z l iX11_paid (Pq (rI R)) 0 0 334 [(0, .ref (za Z 60 0)), (3, .int a3), (4, .int a4), (6, .int v6), (7, .int v7), (8, .int v8), (9, .int v9), (10, .int v10)] [] s := by
  unfold F_X11_paid_334 at hF
  refine a_aload_n dX11_paid_334 0 rfl rfl ?_
  refine a_getR hZ.1 (hZ.2 60 0 (by decide) (by decide) Nat.one_pos) fl_X11_97 rfl 0 rfl dX11_paid_335 ?_
  refine a_iload dX11_paid_338 6 rfl ?_
  refine a_iload dX11_paid_340 7 rfl ?_
  refine a_aload_n dX11_paid_342 0 rfl rfl ?_
  refine a_getR hZ.1 (hZ.2 60 0 (by decide) (by decide) Nat.one_pos) fl_X11_100 rfl 0 rfl dX11_paid_343 ?_
  refine a_iload dX11_paid_346 6 rfl ?_
  obtain ⟨b1, hF⟩ := gd_some hF
  refine a_iald hZ.1 (s 87 0 v9.toNatClampNeg) (hZ.2 87 0 (by decide) (by decide) Nat.one_pos) rfl rfl (inb_vp b1) rfl dX11_paid_348 ?_
  refine a_icmp_ge 357 dX11_paid_349 (by decide) (fun c2 => ?_) (fun c2 => ?_)
  · replace hF := (if_pos c2).symm.trans hF
    refine a_aload_n dX11_paid_357 0 rfl rfl ?_
    refine a_getR hZ.1 (hZ.2 60 0 (by decide) (by decide) Nat.one_pos) fl_X11_100 rfl 0 rfl dX11_paid_358 ?_
    refine a_iload dX11_paid_361 6 rfl ?_
    obtain ⟨b3, hF⟩ := gd_some hF
    refine a_iald hZ.1 (s 87 0 v9.toNatClampNeg) (hZ.2 87 0 (by decide) (by decide) Nat.one_pos) rfl rfl (inb_vp b3) rfl dX11_paid_363 ?_
    refine a_loc [(0, .ref (za Z 60 0)), (3, .int a3), (4, .int a4), (6, .int v6), (7, .int v7), (8, .int v8), (9, .int v9)] [0, 1, 2, 3, 4, 5, 6] rfl ?_
    exact w_X11_paid_364 (l := l) hZ  h249_ w249_ h371_ w371_ v6 v7 v8 v9 v9 (s 87 0 v9.toNatClampNeg)  _ hF
  · replace hF := (if_neg c2).symm.trans hF
    refine a_iload dX11_paid_352 7 rfl ?_
    refine a_goto 364 dX11_paid_354 (by decide) ?_
    refine a_loc [(0, .ref (za Z 60 0)), (3, .int a3), (4, .int a4), (6, .int v6), (7, .int v7), (8, .int v8), (9, .int v9)] [0, 1, 2, 3, 4, 5, 6] rfl ?_
    exact w_X11_paid_364 (l := l) hZ  h249_ w249_ h371_ w371_ v6 v7 v8 v9 v9 v10  _ hF
def F_X11_paid_325 (g : Nat × Nat) (a1 : Int32) (a2 : Int32) (a3 : Int32) (a4 : Int32) (h270_ : Int32 → Int32 → Int32 → Int32 → Int32 → Int32 → St → Option (Int32 × St)) (h334_ : Int32 → Int32 → Int32 → Int32 → Int32 → St → Option (Int32 × St)) (v6 : Int32) (v7 : Int32) (v8 : Int32) (v9 : Int32) (v11 : Int32) (x0 : Int32) (x1 : Int32) (s : St) : Option (Int32 × St) := (h270_ v6 v7 v8 v9 (x0 + x1) (v11 + 1) s)
set_option maxRecDepth 100000 in
set_option maxHeartbeats 4000000 in
theorem w_X11_paid_325 {Z : ZE} {l : Launch} (hZ : OkM Z) {a1 : Int32} {a2 : Int32} {a3 : Int32} {a4 : Int32}  {R : Int32 × St} (h270_ : Int32 → Int32 → Int32 → Int32 → Int32 → Int32 → St → Option (Int32 × St)) (w270_ : ∀ (v6 : Int32) (v7 : Int32) (v8 : Int32) (v9 : Int32) (v10 : Int32) (v11 : Int32)  (s : St), h270_ v6 v7 v8 v9 v10 v11 s = some R → AW Z l iX11_paid (Pq (rI R)) 0 0 270 [(0, .ref (za Z 60 0)), (3, .int a3), (4, .int a4), (6, .int v6), (7, .int v7), (8, .int v8), (9, .int v9), (10, .int v10), (11, .int v11)] [] s) (h334_ : Int32 → Int32 → Int32 → Int32 → Int32 → St → Option (Int32 × St)) (w334_ : ∀ (v6 : Int32) (v7 : Int32) (v8 : Int32) (v9 : Int32) (v10 : Int32)  (s : St), h334_ v6 v7 v8 v9 v10 s = some R → AW Z l iX11_paid (Pq (rI R)) 0 0 334 [(0, .ref (za Z 60 0)), (3, .int a3), (4, .int a4), (6, .int v6), (7, .int v7), (8, .int v8), (9, .int v9), (10, .int v10)] [] s) (v6 : Int32) (v7 : Int32) (v8 : Int32) (v9 : Int32) (v11 : Int32) (x0 : Int32) (x1 : Int32)  (s : St) (hF : F_X11_paid_325 (zg Z) a1 a2 a3 a4 h270_ h334_ v6 v7 v8 v9 v11 x0 x1 s = some R) : AW Z l iX11_paid (Pq (rI R)) 0 0 325 [(0, .ref (za Z 60 0)), (3, .int a3), (4, .int a4), (6, .int v6), (7, .int v7), (8, .int v8), (9, .int v9), (11, .int v11)] [.int x1, .int x0] s := by
  unfold F_X11_paid_325 at hF
  refine a_iadd dX11_paid_325 ?_
  refine a_istore [(10, .int (x0 + x1)), (0, .ref (za Z 60 0)), (3, .int a3), (4, .int a4), (6, .int v6), (7, .int v7), (8, .int v8), (9, .int v9), (11, .int v11)] dX11_paid_326 (by decide) rfl ?_
  refine a_iinc [(11, .int (v11 + 1)), (10, .int (x0 + x1)), (0, .ref (za Z 60 0)), (3, .int a3), (4, .int a4), (6, .int v6), (7, .int v7), (8, .int v8), (9, .int v9)] dX11_paid_328 8 rfl rfl (by decide) rfl ?_
  refine a_goto 270 dX11_paid_331 (by decide) ?_
  refine a_loc [(0, .ref (za Z 60 0)), (3, .int a3), (4, .int a4), (6, .int v6), (7, .int v7), (8, .int v8), (9, .int v9), (10, .int (x0 + x1)), (11, .int (v11 + 1))] [2, 3, 4, 5, 6, 7, 8, 1, 0] rfl ?_
  exact w270_ v6 v7 v8 v9 (x0 + x1) (v11 + 1)  _ hF
def F_X11_paid_270 (g : Nat × Nat) (a1 : Int32) (a2 : Int32) (a3 : Int32) (a4 : Int32) (h334_ : Int32 → Int32 → Int32 → Int32 → Int32 → St → Option (Int32 × St)) : Nat → Int32 → Int32 → Int32 → Int32 → Int32 → Int32 → St → Option (Int32 × St)
  | 0, _, _, _, _, _, _, _ => none
  | n_ + 1, v6, v7, v8, v9, v10, v11, s => (if a3 ≤ v11 then (h334_ v6 v7 v8 v9 v10 s) else (gd (inb v11 8) (if (s 87 0 v11.toNatClampNeg) = 0 then (F_X11_paid_325 g a1 a2 a3 a4 (F_X11_paid_270 g a1 a2 a3 a4 h334_ n_) h334_ v6 v7 v8 v9 v11 v10 (0 : Int32) s) else (gd (inb v11 8) (gd (inb (((v6 + a3) + (a3 * v11)) + v9) 640) (gd (inb v11 8) (gd (ne0 (s 87 0 v11.toNatClampNeg)) (F_X11_paid_325 g a1 a2 a3 a4 (F_X11_paid_270 g a1 a2 a3 a4 h334_ n_) h334_ v6 v7 v8 v9 v11 v10 (((s 85 0 v11.toNatClampNeg) * (s 63 0 (((v6 + a3) + (a3 * v11)) + v9).toNatClampNeg)) / (s 87 0 v11.toNatClampNeg)) s))))))))
set_option maxRecDepth 100000 in
set_option maxHeartbeats 4000000 in
theorem w_X11_paid_270 {Z : ZE} {l : Launch} (hZ : OkM Z) {a1 : Int32} {a2 : Int32} {a3 : Int32} {a4 : Int32}  {R : Int32 × St} (h334_ : Int32 → Int32 → Int32 → Int32 → Int32 → St → Option (Int32 × St)) (w334_ : ∀ (v6 : Int32) (v7 : Int32) (v8 : Int32) (v9 : Int32) (v10 : Int32)  (s : St), h334_ v6 v7 v8 v9 v10 s = some R → AW Z l iX11_paid (Pq (rI R)) 0 0 334 [(0, .ref (za Z 60 0)), (3, .int a3), (4, .int a4), (6, .int v6), (7, .int v7), (8, .int v8), (9, .int v9), (10, .int v10)] [] s) : ∀ (n_ : Nat) (v6 : Int32) (v7 : Int32) (v8 : Int32) (v9 : Int32) (v10 : Int32) (v11 : Int32)  (s : St), F_X11_paid_270 (zg Z) a1 a2 a3 a4 h334_ n_ v6 v7 v8 v9 v10 v11 s = some R → AW Z l iX11_paid (Pq (rI R)) 0 0 270 [(0, .ref (za Z 60 0)), (3, .int a3), (4, .int a4), (6, .int v6), (7, .int v7), (8, .int v8), (9, .int v9), (10, .int v10), (11, .int v11)] [] s := by
  intro n_
  induction n_ with
  | zero =>
    intro v6 v7 v8 v9 v10 v11 s hF
    exact absurd hF (by rw [F_X11_paid_270]; exact fun q => by cases q)
  | succ n_ w270_ =>
    intro v6 v7 v8 v9 v10 v11 s hF
    rw [F_X11_paid_270] at hF
    refine a_iload dX11_paid_270 8 rfl ?_
    refine a_iload_n dX11_paid_272 1 rfl rfl ?_
    refine a_icmp_ge 334 dX11_paid_273 (by decide) (fun c1 => ?_) (fun c1 => ?_)
    · replace hF := (if_pos c1).symm.trans hF
      refine a_loc [(0, .ref (za Z 60 0)), (3, .int a3), (4, .int a4), (6, .int v6), (7, .int v7), (8, .int v8), (9, .int v9), (10, .int v10)] [0, 1, 2, 3, 4, 5, 6, 7] rfl ?_
      exact w334_ v6 v7 v8 v9 v10  _ hF
    · replace hF := (if_neg c1).symm.trans hF
      refine a_iload dX11_paid_276 7 rfl ?_
      refine a_aload_n dX11_paid_278 0 rfl rfl ?_
      refine a_getR hZ.1 (hZ.2 60 0 (by decide) (by decide) Nat.one_pos) fl_X11_100 rfl 0 rfl dX11_paid_279 ?_
      refine a_iload dX11_paid_282 8 rfl ?_
      obtain ⟨b2, hF⟩ := gd_some hF
      refine a_iald hZ.1 (s 87 0 v11.toNatClampNeg) (hZ.2 87 0 (by decide) (by decide) Nat.one_pos) rfl rfl (inb_vp b2) rfl dX11_paid_284 ?_
      refine a_if_ne 292 dX11_paid_285 (by decide) (fun c3 => ?_) (fun c3 => ?_)
      · replace hF := (if_neg c3).symm.trans hF
        refine a_aload_n dX11_paid_292 0 rfl rfl ?_
        refine a_getR hZ.1 (hZ.2 60 0 (by decide) (by decide) Nat.one_pos) fl_X11_94 rfl 0 rfl dX11_paid_293 ?_
        refine a_iload dX11_paid_296 8 rfl ?_
        obtain ⟨b4, hF⟩ := gd_some hF
        refine a_iald hZ.1 (s 85 0 v11.toNatClampNeg) (hZ.2 85 0 (by decide) (by decide) Nat.one_pos) rfl rfl (inb_vp b4) rfl dX11_paid_298 ?_
        refine a_aload_n dX11_paid_299 0 rfl rfl ?_
        refine a_getR hZ.1 (hZ.2 60 0 (by decide) (by decide) Nat.one_pos) fl_X11_24 rfl 0 rfl dX11_paid_300 ?_
        refine a_iload dX11_paid_303 3 rfl ?_
        refine a_iload_n dX11_paid_305 1 rfl rfl ?_
        refine a_iadd dX11_paid_306 ?_
        refine a_iload_n dX11_paid_307 1 rfl rfl ?_
        refine a_iload dX11_paid_308 8 rfl ?_
        refine a_imul dX11_paid_310 ?_
        refine a_iadd dX11_paid_311 ?_
        refine a_iload dX11_paid_312 6 rfl ?_
        refine a_iadd dX11_paid_314 ?_
        obtain ⟨b5, hF⟩ := gd_some hF
        refine a_iald hZ.1 (s 63 0 (((v6 + a3) + (a3 * v11)) + v9).toNatClampNeg) (hZ.2 63 0 (by decide) (by decide) Nat.one_pos) rfl rfl (inb_vp b5) rfl dX11_paid_315 ?_
        refine a_imul dX11_paid_316 ?_
        refine a_aload_n dX11_paid_317 0 rfl rfl ?_
        refine a_getR hZ.1 (hZ.2 60 0 (by decide) (by decide) Nat.one_pos) fl_X11_100 rfl 0 rfl dX11_paid_318 ?_
        refine a_iload dX11_paid_321 8 rfl ?_
        obtain ⟨b6, hF⟩ := gd_some hF
        refine a_iald hZ.1 (s 87 0 v11.toNatClampNeg) (hZ.2 87 0 (by decide) (by decide) Nat.one_pos) rfl rfl (inb_vp b6) rfl dX11_paid_323 ?_
        obtain ⟨b7, hF⟩ := gd_some hF
        refine a_idiv dX11_paid_324 (ne0_n b7) ?_
        refine a_loc [(0, .ref (za Z 60 0)), (3, .int a3), (4, .int a4), (6, .int v6), (7, .int v7), (8, .int v8), (9, .int v9), (11, .int v11)] [0, 1, 2, 3, 4, 5, 6, 8] rfl ?_
        exact w_X11_paid_325 (l := l) hZ  (F_X11_paid_270 (zg Z) a1 a2 a3 a4 h334_ n_) w270_ h334_ w334_ v6 v7 v8 v9 v11 v10 (((s 85 0 v11.toNatClampNeg) * (s 63 0 (((v6 + a3) + (a3 * v11)) + v9).toNatClampNeg)) / (s 87 0 v11.toNatClampNeg))  _ hF
      · replace hF := (if_pos c3).symm.trans hF
        refine a_iconst (v := (0 : Int32)) dX11_paid_288 (by decide) ?_
        refine a_goto 325 dX11_paid_289 (by decide) ?_
        refine a_loc [(0, .ref (za Z 60 0)), (3, .int a3), (4, .int a4), (6, .int v6), (7, .int v7), (8, .int v8), (9, .int v9), (11, .int v11)] [0, 1, 2, 3, 4, 5, 6, 8] rfl ?_
        exact w_X11_paid_325 (l := l) hZ  (F_X11_paid_270 (zg Z) a1 a2 a3 a4 h334_ n_) w270_ h334_ w334_ v6 v7 v8 v9 v11 v10 (0 : Int32)  _ hF
def F_X11_paid_249 (g : Nat × Nat) (a1 : Int32) (a2 : Int32) (a3 : Int32) (a4 : Int32) (h371_ : Int32 → Int32 → Int32 → St → Option (Int32 × St)) : Nat → Int32 → Int32 → Int32 → Int32 → St → Option (Int32 × St)
  | 0, _, _, _, _, _ => none
  | n_ + 1, v6, v7, v8, v9, s => (if a3 ≤ v9 then (h371_ v6 v7 v8 s) else (gd (inb (v6 + v9) 640) ((F_X11_paid_270 g a1 a2 a3 a4 (F_X11_paid_334 g a1 a2 a3 a4 (F_X11_paid_249 g a1 a2 a3 a4 h371_ n_) h371_) fu) v6 v7 v8 v9 (s 63 0 (v6 + v9).toNatClampNeg) (0 : Int32) s)))
set_option maxRecDepth 100000 in
set_option maxHeartbeats 4000000 in
theorem w_X11_paid_249 {Z : ZE} {l : Launch} (hZ : OkM Z) {a1 : Int32} {a2 : Int32} {a3 : Int32} {a4 : Int32}  {R : Int32 × St} (h371_ : Int32 → Int32 → Int32 → St → Option (Int32 × St)) (w371_ : ∀ (v6 : Int32) (v7 : Int32) (v8 : Int32)  (s : St), h371_ v6 v7 v8 s = some R → AW Z l iX11_paid (Pq (rI R)) 0 0 371 [(0, .ref (za Z 60 0)), (3, .int a3), (4, .int a4), (6, .int v6), (7, .int v7), (8, .int v8)] [] s) : ∀ (n_ : Nat) (v6 : Int32) (v7 : Int32) (v8 : Int32) (v9 : Int32)  (s : St), F_X11_paid_249 (zg Z) a1 a2 a3 a4 h371_ n_ v6 v7 v8 v9 s = some R → AW Z l iX11_paid (Pq (rI R)) 0 0 249 [(0, .ref (za Z 60 0)), (3, .int a3), (4, .int a4), (6, .int v6), (7, .int v7), (8, .int v8), (9, .int v9)] [] s := by
  intro n_
  induction n_ with
  | zero =>
    intro v6 v7 v8 v9 s hF
    exact absurd hF (by rw [F_X11_paid_249]; exact fun q => by cases q)
  | succ n_ w249_ =>
    intro v6 v7 v8 v9 s hF
    rw [F_X11_paid_249] at hF
    refine a_iload dX11_paid_249 6 rfl ?_
    refine a_iload_n dX11_paid_251 1 rfl rfl ?_
    refine a_icmp_ge 371 dX11_paid_252 (by decide) (fun c1 => ?_) (fun c1 => ?_)
    · replace hF := (if_pos c1).symm.trans hF
      refine a_loc [(0, .ref (za Z 60 0)), (3, .int a3), (4, .int a4), (6, .int v6), (7, .int v7), (8, .int v8)] [0, 1, 2, 3, 4, 5] rfl ?_
      exact w371_ v6 v7 v8  _ hF
    · replace hF := (if_neg c1).symm.trans hF
      refine a_aload_n dX11_paid_255 0 rfl rfl ?_
      refine a_getR hZ.1 (hZ.2 60 0 (by decide) (by decide) Nat.one_pos) fl_X11_24 rfl 0 rfl dX11_paid_256 ?_
      refine a_iload dX11_paid_259 3 rfl ?_
      refine a_iload dX11_paid_261 6 rfl ?_
      refine a_iadd dX11_paid_263 ?_
      obtain ⟨b2, hF⟩ := gd_some hF
      refine a_iald hZ.1 (s 63 0 (v6 + v9).toNatClampNeg) (hZ.2 63 0 (by decide) (by decide) Nat.one_pos) rfl rfl (inb_vp b2) rfl dX11_paid_264 ?_
      refine a_istore [(10, .int (s 63 0 (v6 + v9).toNatClampNeg)), (0, .ref (za Z 60 0)), (3, .int a3), (4, .int a4), (6, .int v6), (7, .int v7), (8, .int v8), (9, .int v9)] dX11_paid_265 (by decide) rfl ?_
      refine a_iconst (v := (0 : Int32)) dX11_paid_267 (by decide) ?_
      refine a_istore [(11, .int (0 : Int32)), (10, .int (s 63 0 (v6 + v9).toNatClampNeg)), (0, .ref (za Z 60 0)), (3, .int a3), (4, .int a4), (6, .int v6), (7, .int v7), (8, .int v8), (9, .int v9)] dX11_paid_268 (by decide) rfl ?_
      refine a_loc [(0, .ref (za Z 60 0)), (3, .int a3), (4, .int a4), (6, .int v6), (7, .int v7), (8, .int v8), (9, .int v9), (10, .int (s 63 0 (v6 + v9).toNatClampNeg)), (11, .int (0 : Int32))] [2, 3, 4, 5, 6, 7, 8, 1, 0] rfl ?_
      exact w_X11_paid_270 (l := l) hZ  (F_X11_paid_334 (zg Z) a1 a2 a3 a4 (F_X11_paid_249 (zg Z) a1 a2 a3 a4 h371_ n_) h371_) (w_X11_paid_334 (l := l) hZ  (F_X11_paid_249 (zg Z) a1 a2 a3 a4 h371_ n_) w249_ h371_ w371_) fu v6 v7 v8 v9 (s 63 0 (v6 + v9).toNatClampNeg) (0 : Int32)  _ hF
def F_X11_paid_238 (g : Nat × Nat) (a1 : Int32) (a2 : Int32) (a3 : Int32) (a4 : Int32) (h447_ : Int32 → St → Option (Int32 × St)) : Nat → Int32 → Int32 → Int32 → St → Option (Int32 × St)
  | 0, _, _, _, _ => none
  | n_ + 1, v6, v7, v8, s => (if v8 = 0 then (h447_ v7 s) else ((F_X11_paid_249 g a1 a2 a3 a4 (F_X11_paid_371 g a1 a2 a3 a4 (F_X11_paid_238 g a1 a2 a3 a4 h447_ n_) h447_) fu) v6 v7 (0 : Int32) (0 : Int32) s))
set_option maxRecDepth 100000 in
set_option maxHeartbeats 4000000 in
theorem w_X11_paid_238 {Z : ZE} {l : Launch} (hZ : OkM Z) {a1 : Int32} {a2 : Int32} {a3 : Int32} {a4 : Int32}  {R : Int32 × St} (h447_ : Int32 → St → Option (Int32 × St)) (w447_ : ∀ (v7 : Int32)  (s : St), h447_ v7 s = some R → AW Z l iX11_paid (Pq (rI R)) 0 0 447 [(0, .ref (za Z 60 0)), (3, .int a3), (4, .int a4), (7, .int v7)] [] s) : ∀ (n_ : Nat) (v6 : Int32) (v7 : Int32) (v8 : Int32)  (s : St), F_X11_paid_238 (zg Z) a1 a2 a3 a4 h447_ n_ v6 v7 v8 s = some R → AW Z l iX11_paid (Pq (rI R)) 0 0 238 [(0, .ref (za Z 60 0)), (3, .int a3), (4, .int a4), (6, .int v6), (7, .int v7), (8, .int v8)] [] s := by
  intro n_
  induction n_ with
  | zero =>
    intro v6 v7 v8 s hF
    exact absurd hF (by rw [F_X11_paid_238]; exact fun q => by cases q)
  | succ n_ w238_ =>
    intro v6 v7 v8 s hF
    rw [F_X11_paid_238] at hF
    refine a_iload dX11_paid_238 5 rfl ?_
    refine a_if_eq 447 dX11_paid_240 (by decide) (fun c1 => ?_) (fun c1 => ?_)
    · replace hF := (if_pos c1).symm.trans hF
      refine a_loc [(0, .ref (za Z 60 0)), (3, .int a3), (4, .int a4), (7, .int v7)] [0, 1, 2, 4] rfl ?_
      exact w447_ v7  _ hF
    · replace hF := (if_neg c1).symm.trans hF
      refine a_iconst (v := (0 : Int32)) dX11_paid_243 (by decide) ?_
      refine a_istore [(8, .int (0 : Int32)), (0, .ref (za Z 60 0)), (3, .int a3), (4, .int a4), (6, .int v6), (7, .int v7)] dX11_paid_244 (by decide) rfl ?_
      refine a_iconst (v := (0 : Int32)) dX11_paid_246 (by decide) ?_
      refine a_istore [(9, .int (0 : Int32)), (8, .int (0 : Int32)), (0, .ref (za Z 60 0)), (3, .int a3), (4, .int a4), (6, .int v6), (7, .int v7)] dX11_paid_247 (by decide) rfl ?_
      refine a_loc [(0, .ref (za Z 60 0)), (3, .int a3), (4, .int a4), (6, .int v6), (7, .int v7), (8, .int (0 : Int32)), (9, .int (0 : Int32))] [2, 3, 4, 5, 6, 1, 0] rfl ?_
      exact w_X11_paid_249 (l := l) hZ  (F_X11_paid_371 (zg Z) a1 a2 a3 a4 (F_X11_paid_238 (zg Z) a1 a2 a3 a4 h447_ n_) h447_) (w_X11_paid_371 (l := l) hZ  (F_X11_paid_238 (zg Z) a1 a2 a3 a4 h447_ n_) w238_ h447_ w447_) fu v6 v7 (0 : Int32) (0 : Int32)  _ hF
def F_X11_paid_232 (g : Nat × Nat) (a1 : Int32) (a2 : Int32) (a3 : Int32) (a4 : Int32)  (v6 : Int32) (s : St) : Option (Int32 × St) := ((F_X11_paid_238 g a1 a2 a3 a4 (F_X11_paid_447 g a1 a2 a3 a4 ) fu) v6 (0 : Int32) (1 : Int32) s)
set_option maxRecDepth 100000 in
set_option maxHeartbeats 4000000 in
theorem w_X11_paid_232 {Z : ZE} {l : Launch} (hZ : OkM Z) {a1 : Int32} {a2 : Int32} {a3 : Int32} {a4 : Int32}  {R : Int32 × St}  (v6 : Int32)  (s : St) (hF : F_X11_paid_232 (zg Z) a1 a2 a3 a4 v6 s = some R) : AW Z l iX11_paid (Pq (rI R)) 0 0 232 [(0, .ref (za Z 60 0)), (3, .int a3), (4, .int a4), (6, .int v6)] [] s := by
  unfold F_X11_paid_232 at hF
  refine a_iconst (v := (0 : Int32)) dX11_paid_232 (by decide) ?_
  refine a_istore [(7, .int (0 : Int32)), (0, .ref (za Z 60 0)), (3, .int a3), (4, .int a4), (6, .int v6)] dX11_paid_233 (by decide) rfl ?_
  refine a_iconst (v := (1 : Int32)) dX11_paid_235 (by decide) ?_
  refine a_istore [(8, .int (1 : Int32)), (7, .int (0 : Int32)), (0, .ref (za Z 60 0)), (3, .int a3), (4, .int a4), (6, .int v6)] dX11_paid_236 (by decide) rfl ?_
  refine a_loc [(0, .ref (za Z 60 0)), (3, .int a3), (4, .int a4), (6, .int v6), (7, .int (0 : Int32)), (8, .int (1 : Int32))] [2, 3, 4, 5, 1, 0] rfl ?_
  exact w_X11_paid_238 (l := l) hZ  (F_X11_paid_447 (zg Z) a1 a2 a3 a4 ) (w_X11_paid_447 (l := l) hZ  ) fu v6 (0 : Int32) (1 : Int32)  _ hF
def F_X11_paid_212 (g : Nat × Nat) (a1 : Int32) (a2 : Int32) (a3 : Int32) (a4 : Int32) (h156_ : Int32 → Int32 → St → Option (Int32 × St)) (h232_ : Int32 → St → Option (Int32 × St)) (v6 : Int32) (v7 : Int32) (s : St) : Option (Int32 × St) := (gd (inb v7 8) (gd (inb v7 8) (h156_ v6 (v7 + 1) (up s 85 0 v7.toNatClampNeg (s 87 0 v7.toNatClampNeg)))))
set_option maxRecDepth 100000 in
set_option maxHeartbeats 4000000 in
theorem w_X11_paid_212 {Z : ZE} {l : Launch} (hZ : OkM Z) {a1 : Int32} {a2 : Int32} {a3 : Int32} {a4 : Int32}  {R : Int32 × St} (h156_ : Int32 → Int32 → St → Option (Int32 × St)) (w156_ : ∀ (v6 : Int32) (v7 : Int32)  (s : St), h156_ v6 v7 s = some R → AW Z l iX11_paid (Pq (rI R)) 0 0 156 [(0, .ref (za Z 60 0)), (3, .int a3), (4, .int a4), (6, .int v6), (7, .int v7)] [] s) (h232_ : Int32 → St → Option (Int32 × St)) (w232_ : ∀ (v6 : Int32)  (s : St), h232_ v6 s = some R → AW Z l iX11_paid (Pq (rI R)) 0 0 232 [(0, .ref (za Z 60 0)), (3, .int a3), (4, .int a4), (6, .int v6)] [] s) (v6 : Int32) (v7 : Int32)  (s : St) (hF : F_X11_paid_212 (zg Z) a1 a2 a3 a4 h156_ h232_ v6 v7 s = some R) : AW Z l iX11_paid (Pq (rI R)) 0 0 212 [(0, .ref (za Z 60 0)), (3, .int a3), (4, .int a4), (6, .int v6), (7, .int v7)] [] s := by
  unfold F_X11_paid_212 at hF
  refine a_aload_n dX11_paid_212 0 rfl rfl ?_
  refine a_getR hZ.1 (hZ.2 60 0 (by decide) (by decide) Nat.one_pos) fl_X11_94 rfl 0 rfl dX11_paid_213 ?_
  refine a_iload dX11_paid_216 4 rfl ?_
  refine a_aload_n dX11_paid_218 0 rfl rfl ?_
  refine a_getR hZ.1 (hZ.2 60 0 (by decide) (by decide) Nat.one_pos) fl_X11_100 rfl 0 rfl dX11_paid_219 ?_
  refine a_iload dX11_paid_222 4 rfl ?_
  obtain ⟨b1, hF⟩ := gd_some hF
  refine a_iald hZ.1 (s 87 0 v7.toNatClampNeg) (hZ.2 87 0 (by decide) (by decide) Nat.one_pos) rfl rfl (inb_vp b1) rfl dX11_paid_224 ?_
  obtain ⟨b2, hF⟩ := gd_some hF
  refine a_iast hZ.1 (hZ.2 85 0 (by decide) (by decide) Nat.one_pos) rfl rfl (inb_vp b2) dX11_paid_225 ?_
  refine a_iinc [(7, .int (v7 + 1)), (0, .ref (za Z 60 0)), (3, .int a3), (4, .int a4), (6, .int v6)] dX11_paid_226 4 rfl rfl (by decide) rfl ?_
  refine a_goto 156 dX11_paid_229 (by decide) ?_
  refine a_loc [(0, .ref (za Z 60 0)), (3, .int a3), (4, .int a4), (6, .int v6), (7, .int (v7 + 1))] [1, 2, 3, 4, 0] rfl ?_
  exact w156_ v6 (v7 + 1)  _ hF
def F_X11_paid_173 (g : Nat × Nat) (a1 : Int32) (a2 : Int32) (a3 : Int32) (a4 : Int32) (h212_ : Int32 → Int32 → St → Option (Int32 × St)) : Nat → Int32 → Int32 → Int32 → St → Option (Int32 × St)
  | 0, _, _, _, _ => none
  | n_ + 1, v6, v7, v8, s => (if a3 ≤ v8 then (h212_ v6 v7 s) else (gd (inb v7 8) (gd (inb (((v6 + a3) + (a3 * v7)) + v8) 640) (gd (inb v7 8) (F_X11_paid_173 g a1 a2 a3 a4 h212_ n_ v6 v7 (v8 + 1) (up s 87 0 v7.toNatClampNeg ((s 87 0 v7.toNatClampNeg) + (s 63 0 (((v6 + a3) + (a3 * v7)) + v8).toNatClampNeg))))))))
set_option maxRecDepth 100000 in
set_option maxHeartbeats 4000000 in
theorem w_X11_paid_173 {Z : ZE} {l : Launch} (hZ : OkM Z) {a1 : Int32} {a2 : Int32} {a3 : Int32} {a4 : Int32}  {R : Int32 × St} (h212_ : Int32 → Int32 → St → Option (Int32 × St)) (w212_ : ∀ (v6 : Int32) (v7 : Int32)  (s : St), h212_ v6 v7 s = some R → AW Z l iX11_paid (Pq (rI R)) 0 0 212 [(0, .ref (za Z 60 0)), (3, .int a3), (4, .int a4), (6, .int v6), (7, .int v7)] [] s) : ∀ (n_ : Nat) (v6 : Int32) (v7 : Int32) (v8 : Int32)  (s : St), F_X11_paid_173 (zg Z) a1 a2 a3 a4 h212_ n_ v6 v7 v8 s = some R → AW Z l iX11_paid (Pq (rI R)) 0 0 173 [(0, .ref (za Z 60 0)), (3, .int a3), (4, .int a4), (6, .int v6), (7, .int v7), (8, .int v8)] [] s := by
  intro n_
  induction n_ with
  | zero =>
    intro v6 v7 v8 s hF
    exact absurd hF (by rw [F_X11_paid_173]; exact fun q => by cases q)
  | succ n_ w173_ =>
    intro v6 v7 v8 s hF
    rw [F_X11_paid_173] at hF
    refine a_iload dX11_paid_173 5 rfl ?_
    refine a_iload_n dX11_paid_175 1 rfl rfl ?_
    refine a_icmp_ge 212 dX11_paid_176 (by decide) (fun c1 => ?_) (fun c1 => ?_)
    · replace hF := (if_pos c1).symm.trans hF
      refine a_loc [(0, .ref (za Z 60 0)), (3, .int a3), (4, .int a4), (6, .int v6), (7, .int v7)] [0, 1, 2, 3, 4] rfl ?_
      exact w212_ v6 v7  _ hF
    · replace hF := (if_neg c1).symm.trans hF
      refine a_aload_n dX11_paid_179 0 rfl rfl ?_
      refine a_getR hZ.1 (hZ.2 60 0 (by decide) (by decide) Nat.one_pos) fl_X11_100 rfl 0 rfl dX11_paid_180 ?_
      refine a_iload dX11_paid_183 4 rfl ?_
      refine a_dup2 dX11_paid_185 rfl rfl ?_
      obtain ⟨b2, hF⟩ := gd_some hF
      refine a_iald hZ.1 (s 87 0 v7.toNatClampNeg) (hZ.2 87 0 (by decide) (by decide) Nat.one_pos) rfl rfl (inb_vp b2) rfl dX11_paid_186 ?_
      refine a_aload_n dX11_paid_187 0 rfl rfl ?_
      refine a_getR hZ.1 (hZ.2 60 0 (by decide) (by decide) Nat.one_pos) fl_X11_24 rfl 0 rfl dX11_paid_188 ?_
      refine a_iload dX11_paid_191 3 rfl ?_
      refine a_iload_n dX11_paid_193 1 rfl rfl ?_
      refine a_iadd dX11_paid_194 ?_
      refine a_iload_n dX11_paid_195 1 rfl rfl ?_
      refine a_iload dX11_paid_196 4 rfl ?_
      refine a_imul dX11_paid_198 ?_
      refine a_iadd dX11_paid_199 ?_
      refine a_iload dX11_paid_200 5 rfl ?_
      refine a_iadd dX11_paid_202 ?_
      obtain ⟨b3, hF⟩ := gd_some hF
      refine a_iald hZ.1 (s 63 0 (((v6 + a3) + (a3 * v7)) + v8).toNatClampNeg) (hZ.2 63 0 (by decide) (by decide) Nat.one_pos) rfl rfl (inb_vp b3) rfl dX11_paid_203 ?_
      refine a_iadd dX11_paid_204 ?_
      obtain ⟨b4, hF⟩ := gd_some hF
      refine a_iast hZ.1 (hZ.2 87 0 (by decide) (by decide) Nat.one_pos) rfl rfl (inb_vp b4) dX11_paid_205 ?_
      refine a_iinc [(8, .int (v8 + 1)), (0, .ref (za Z 60 0)), (3, .int a3), (4, .int a4), (6, .int v6), (7, .int v7)] dX11_paid_206 5 rfl rfl (by decide) rfl ?_
      refine a_goto 173 dX11_paid_209 (by decide) ?_
      refine a_loc [(0, .ref (za Z 60 0)), (3, .int a3), (4, .int a4), (6, .int v6), (7, .int v7), (8, .int (v8 + 1))] [1, 2, 3, 4, 5, 0] rfl ?_
      exact w173_ v6 v7 (v8 + 1)  _ hF
def F_X11_paid_156 (g : Nat × Nat) (a1 : Int32) (a2 : Int32) (a3 : Int32) (a4 : Int32) (h232_ : Int32 → St → Option (Int32 × St)) : Nat → Int32 → Int32 → St → Option (Int32 × St)
  | 0, _, _, _ => none
  | n_ + 1, v6, v7, s => (if a3 ≤ v7 then (h232_ v6 s) else (gd (inb v7 8) ((F_X11_paid_173 g a1 a2 a3 a4 (F_X11_paid_212 g a1 a2 a3 a4 (F_X11_paid_156 g a1 a2 a3 a4 h232_ n_) h232_) fu) v6 v7 (0 : Int32) (up s 87 0 v7.toNatClampNeg (0 : Int32)))))
set_option maxRecDepth 100000 in
set_option maxHeartbeats 4000000 in
theorem w_X11_paid_156 {Z : ZE} {l : Launch} (hZ : OkM Z) {a1 : Int32} {a2 : Int32} {a3 : Int32} {a4 : Int32}  {R : Int32 × St} (h232_ : Int32 → St → Option (Int32 × St)) (w232_ : ∀ (v6 : Int32)  (s : St), h232_ v6 s = some R → AW Z l iX11_paid (Pq (rI R)) 0 0 232 [(0, .ref (za Z 60 0)), (3, .int a3), (4, .int a4), (6, .int v6)] [] s) : ∀ (n_ : Nat) (v6 : Int32) (v7 : Int32)  (s : St), F_X11_paid_156 (zg Z) a1 a2 a3 a4 h232_ n_ v6 v7 s = some R → AW Z l iX11_paid (Pq (rI R)) 0 0 156 [(0, .ref (za Z 60 0)), (3, .int a3), (4, .int a4), (6, .int v6), (7, .int v7)] [] s := by
  intro n_
  induction n_ with
  | zero =>
    intro v6 v7 s hF
    exact absurd hF (by rw [F_X11_paid_156]; exact fun q => by cases q)
  | succ n_ w156_ =>
    intro v6 v7 s hF
    rw [F_X11_paid_156] at hF
    refine a_iload dX11_paid_156 4 rfl ?_
    refine a_iload_n dX11_paid_158 1 rfl rfl ?_
    refine a_icmp_ge 232 dX11_paid_159 (by decide) (fun c1 => ?_) (fun c1 => ?_)
    · replace hF := (if_pos c1).symm.trans hF
      refine a_loc [(0, .ref (za Z 60 0)), (3, .int a3), (4, .int a4), (6, .int v6)] [0, 1, 2, 3] rfl ?_
      exact w232_ v6  _ hF
    · replace hF := (if_neg c1).symm.trans hF
      refine a_aload_n dX11_paid_162 0 rfl rfl ?_
      refine a_getR hZ.1 (hZ.2 60 0 (by decide) (by decide) Nat.one_pos) fl_X11_100 rfl 0 rfl dX11_paid_163 ?_
      refine a_iload dX11_paid_166 4 rfl ?_
      refine a_iconst (v := (0 : Int32)) dX11_paid_168 (by decide) ?_
      obtain ⟨b2, hF⟩ := gd_some hF
      refine a_iast hZ.1 (hZ.2 87 0 (by decide) (by decide) Nat.one_pos) rfl rfl (inb_vp b2) dX11_paid_169 ?_
      refine a_iconst (v := (0 : Int32)) dX11_paid_170 (by decide) ?_
      refine a_istore [(8, .int (0 : Int32)), (0, .ref (za Z 60 0)), (3, .int a3), (4, .int a4), (6, .int v6), (7, .int v7)] dX11_paid_171 (by decide) rfl ?_
      refine a_loc [(0, .ref (za Z 60 0)), (3, .int a3), (4, .int a4), (6, .int v6), (7, .int v7), (8, .int (0 : Int32))] [1, 2, 3, 4, 5, 0] rfl ?_
      exact w_X11_paid_173 (l := l) hZ  (F_X11_paid_212 (zg Z) a1 a2 a3 a4 (F_X11_paid_156 (zg Z) a1 a2 a3 a4 h232_ n_) h232_) (w_X11_paid_212 (l := l) hZ  (F_X11_paid_156 (zg Z) a1 a2 a3 a4 h232_ n_) w156_ h232_ w232_) fu v6 v7 (0 : Int32)  _ hF
def F_X11_paid_148 (g : Nat × Nat) (a1 : Int32) (a2 : Int32) (a3 : Int32) (a4 : Int32)  (v6 : Int32) (s : St) : Option (Int32 × St) := ((F_X11_paid_156 g a1 a2 a3 a4 (F_X11_paid_232 g a1 a2 a3 a4 ) fu) v6 (0 : Int32) (up s 60 0 1 (0 : Int32)))
set_option maxRecDepth 100000 in
set_option maxHeartbeats 4000000 in
theorem w_X11_paid_148 {Z : ZE} {l : Launch} (hZ : OkM Z) {a1 : Int32} {a2 : Int32} {a3 : Int32} {a4 : Int32}  {R : Int32 × St}  (v6 : Int32)  (s : St) (hF : F_X11_paid_148 (zg Z) a1 a2 a3 a4 v6 s = some R) : AW Z l iX11_paid (Pq (rI R)) 0 0 148 [(0, .ref (za Z 60 0)), (3, .int a3), (4, .int a4), (6, .int v6)] [] s := by
  unfold F_X11_paid_148 at hF
  refine a_aload_n dX11_paid_148 0 rfl rfl ?_
  refine a_iconst (v := (0 : Int32)) dX11_paid_149 (by decide) ?_
  refine a_put hZ.1 (hZ.2 60 0 (by decide) (by decide) Nat.one_pos) fl_X11_7 rfl rfl rfl dX11_paid_150 ?_
  refine a_iconst (v := (0 : Int32)) dX11_paid_153 (by decide) ?_
  refine a_istore [(7, .int (0 : Int32)), (0, .ref (za Z 60 0)), (3, .int a3), (4, .int a4), (6, .int v6)] dX11_paid_154 (by decide) rfl ?_
  refine a_loc [(0, .ref (za Z 60 0)), (3, .int a3), (4, .int a4), (6, .int v6), (7, .int (0 : Int32))] [1, 2, 3, 4, 0] rfl ?_
  exact w_X11_paid_156 (l := l) hZ  (F_X11_paid_232 (zg Z) a1 a2 a3 a4 ) (w_X11_paid_232 (l := l) hZ  ) fu v6 (0 : Int32)  _ hF
def F_X11_paid_133 (g : Nat × Nat) (a1 : Int32) (a2 : Int32) (a3 : Int32) (a4 : Int32) (h71_ : Int32 → Int32 → St → Option (Int32 × St)) (h148_ : Int32 → St → Option (Int32 × St)) (v6 : Int32) (v7 : Int32) (x0 : Int64) (x1 : Int64) (x2 : Int64) (s : St) : Option (Int32 × St) := (bd (F_X11_in g x0 x1 x2 s) (fun r133 s133 => (if r133 = 0 then (some ((-1000001), s133)) else (h71_ v6 (v7 + 1) s133))))
set_option maxRecDepth 100000 in
set_option maxHeartbeats 4000000 in
theorem w_X11_paid_133 {Z : ZE} {l : Launch} (hZ : OkM Z) {a1 : Int32} {a2 : Int32} {a3 : Int32} {a4 : Int32}  {R : Int32 × St} (h71_ : Int32 → Int32 → St → Option (Int32 × St)) (w71_ : ∀ (v6 : Int32) (v7 : Int32)  (s : St), h71_ v6 v7 s = some R → AW Z l iX11_paid (Pq (rI R)) 0 0 71 [(0, .ref (za Z 60 0)), (3, .int a3), (4, .int a4), (6, .int v6), (7, .int v7)] [] s) (h148_ : Int32 → St → Option (Int32 × St)) (w148_ : ∀ (v6 : Int32)  (s : St), h148_ v6 s = some R → AW Z l iX11_paid (Pq (rI R)) 0 0 148 [(0, .ref (za Z 60 0)), (3, .int a3), (4, .int a4), (6, .int v6)] [] s) (v6 : Int32) (v7 : Int32) (x0 : Int64) (x1 : Int64) (x2 : Int64)  (s : St) (hF : F_X11_paid_133 (zg Z) a1 a2 a3 a4 h71_ h148_ v6 v7 x0 x1 x2 s = some R) : AW Z l iX11_paid (Pq (rI R)) 0 0 133 [(0, .ref (za Z 60 0)), (3, .int a3), (4, .int a4), (6, .int v6), (7, .int v7)] [.long x2, .long x1, .long x0] s := by
  unfold F_X11_paid_133 at hF
  obtain ⟨r133, s133, e133, hF⟩ := bd_some hF
  refine a_invS hZ.1 (As := [.long x0, .long x1, .long x2]) (rest := []) lk_X11_126 ⟨⟨by decide, by decide⟩, by decide, by decide⟩ rfl (Nat.le_of_ble_eq_true rfl) dX11_paid_133 (m_X11_in hZ  e133) ?_
  show AW Z l iX11_paid (Pq (rI R)) 0 0 136 [(0, .ref (za Z 60 0)), (3, .int a3), (4, .int a4), (6, .int v6), (7, .int v7)] [.int r133] s133
  refine a_if_ne 142 dX11_paid_136 (by decide) (fun c1 => ?_) (fun c1 => ?_)
  · replace hF := (if_neg c1).symm.trans hF
    refine a_iinc [(7, .int (v7 + 1)), (0, .ref (za Z 60 0)), (3, .int a3), (4, .int a4), (6, .int v6)] dX11_paid_142 4 rfl rfl (by decide) rfl ?_
    refine a_goto 71 dX11_paid_145 (by decide) ?_
    refine a_loc [(0, .ref (za Z 60 0)), (3, .int a3), (4, .int a4), (6, .int v6), (7, .int (v7 + 1))] [1, 2, 3, 4, 0] rfl ?_
    exact w71_ v6 (v7 + 1)  _ hF
  · replace hF := (if_pos c1).symm.trans hF
    refine a_ldc (v := (-1000001)) kw_1136 dX11_paid_139 ?_
    replace hF := Option.some.inj hF
    subst hF
    exact a_iret rfl (Nat.zero_le _) (Nat.zero_le _) dX11_paid_141 ⟨rfl, rfl⟩
def F_X11_paid_107 (g : Nat × Nat) (a1 : Int32) (a2 : Int32) (a3 : Int32) (a4 : Int32) (h71_ : Int32 → Int32 → St → Option (Int32 × St)) (h148_ : Int32 → St → Option (Int32 × St)) (v6 : Int32) (v7 : Int32) (x0 : Int32) (s : St) : Option (Int32 × St) := (gd (inb (v6 + v7) 640) (if x0 = 0 then (F_X11_paid_133 g a1 a2 a3 a4 h71_ h148_ v6 v7 (s 63 0 (v6 + v7).toNatClampNeg).toInt64 (0 : Int64) (1000 : Int64) s) else (F_X11_paid_133 g a1 a2 a3 a4 h71_ h148_ v6 v7 (s 63 0 (v6 + v7).toNatClampNeg).toInt64 (0 : Int64) (0 : Int64) s)))
set_option maxRecDepth 100000 in
set_option maxHeartbeats 4000000 in
theorem w_X11_paid_107 {Z : ZE} {l : Launch} (hZ : OkM Z) {a1 : Int32} {a2 : Int32} {a3 : Int32} {a4 : Int32}  {R : Int32 × St} (h71_ : Int32 → Int32 → St → Option (Int32 × St)) (w71_ : ∀ (v6 : Int32) (v7 : Int32)  (s : St), h71_ v6 v7 s = some R → AW Z l iX11_paid (Pq (rI R)) 0 0 71 [(0, .ref (za Z 60 0)), (3, .int a3), (4, .int a4), (6, .int v6), (7, .int v7)] [] s) (h148_ : Int32 → St → Option (Int32 × St)) (w148_ : ∀ (v6 : Int32)  (s : St), h148_ v6 s = some R → AW Z l iX11_paid (Pq (rI R)) 0 0 148 [(0, .ref (za Z 60 0)), (3, .int a3), (4, .int a4), (6, .int v6)] [] s) (v6 : Int32) (v7 : Int32) (x0 : Int32)  (s : St) (hF : F_X11_paid_107 (zg Z) a1 a2 a3 a4 h71_ h148_ v6 v7 x0 s = some R) : AW Z l iX11_paid (Pq (rI R)) 0 0 107 [(0, .ref (za Z 60 0)), (3, .int a3), (4, .int a4), (6, .int v6), (7, .int v7)] [.int x0] s := by
  unfold F_X11_paid_107 at hF
  refine a_istore [(8, .int x0), (0, .ref (za Z 60 0)), (3, .int a3), (4, .int a4), (6, .int v6), (7, .int v7)] dX11_paid_107 (by decide) rfl ?_
  refine a_aload_n dX11_paid_109 1 rfl rfl ?_
  refine a_getR hZ.1 (hZ.2 60 0 (by decide) (by decide) Nat.one_pos) fl_X11_24 rfl 0 rfl dX11_paid_110 ?_
  refine a_iload dX11_paid_113 4 rfl ?_
  refine a_iload dX11_paid_115 5 rfl ?_
  refine a_iadd dX11_paid_117 ?_
  obtain ⟨b1, hF⟩ := gd_some hF
  refine a_iald hZ.1 (s 63 0 (v6 + v7).toNatClampNeg) (hZ.2 63 0 (by decide) (by decide) Nat.one_pos) rfl rfl (inb_vp b1) rfl dX11_paid_118 ?_
  refine a_i2l dX11_paid_119 ?_
  refine a_lconst (v := (0 : Int64)) dX11_paid_120 (by decide) ?_
  refine a_iload dX11_paid_121 0 rfl ?_
  refine a_if_eq 130 dX11_paid_123 (by decide) (fun c2 => ?_) (fun c2 => ?_)
  · replace hF := (if_pos c2).symm.trans hF
    refine a_ldc2 (v := (1000 : Int64)) kw_1163 dX11_paid_130 ?_
    refine a_loc [(0, .ref (za Z 60 0)), (3, .int a3), (4, .int a4), (6, .int v6), (7, .int v7)] [1, 2, 3, 4, 5] rfl ?_
    exact w_X11_paid_133 (l := l) hZ  h71_ w71_ h148_ w148_ v6 v7 ((s 63 0 (v6 + v7).toNatClampNeg).toInt64) (0 : Int64) (1000 : Int64)  _ hF
  · replace hF := (if_neg c2).symm.trans hF
    refine a_lconst (v := (0 : Int64)) dX11_paid_126 (by decide) ?_
    refine a_goto 133 dX11_paid_127 (by decide) ?_
    refine a_loc [(0, .ref (za Z 60 0)), (3, .int a3), (4, .int a4), (6, .int v6), (7, .int v7)] [1, 2, 3, 4, 5] rfl ?_
    exact w_X11_paid_133 (l := l) hZ  h71_ w71_ h148_ w148_ v6 v7 ((s 63 0 (v6 + v7).toNatClampNeg).toInt64) (0 : Int64) (0 : Int64)  _ hF
def F_X11_paid_106 (g : Nat × Nat) (a1 : Int32) (a2 : Int32) (a3 : Int32) (a4 : Int32) (h71_ : Int32 → Int32 → St → Option (Int32 × St)) (h148_ : Int32 → St → Option (Int32 × St)) (v6 : Int32) (v7 : Int32) (s : St) : Option (Int32 × St) := (F_X11_paid_107 g a1 a2 a3 a4 h71_ h148_ v6 v7 (0 : Int32) s)
set_option maxRecDepth 100000 in
set_option maxHeartbeats 4000000 in
theorem w_X11_paid_106 {Z : ZE} {l : Launch} (hZ : OkM Z) {a1 : Int32} {a2 : Int32} {a3 : Int32} {a4 : Int32}  {R : Int32 × St} (h71_ : Int32 → Int32 → St → Option (Int32 × St)) (w71_ : ∀ (v6 : Int32) (v7 : Int32)  (s : St), h71_ v6 v7 s = some R → AW Z l iX11_paid (Pq (rI R)) 0 0 71 [(0, .ref (za Z 60 0)), (3, .int a3), (4, .int a4), (6, .int v6), (7, .int v7)] [] s) (h148_ : Int32 → St → Option (Int32 × St)) (w148_ : ∀ (v6 : Int32)  (s : St), h148_ v6 s = some R → AW Z l iX11_paid (Pq (rI R)) 0 0 148 [(0, .ref (za Z 60 0)), (3, .int a3), (4, .int a4), (6, .int v6)] [] s) (v6 : Int32) (v7 : Int32)  (s : St) (hF : F_X11_paid_106 (zg Z) a1 a2 a3 a4 h71_ h148_ v6 v7 s = some R) : AW Z l iX11_paid (Pq (rI R)) 0 0 106 [(0, .ref (za Z 60 0)), (3, .int a3), (4, .int a4), (6, .int v6), (7, .int v7)] [] s := by
  unfold F_X11_paid_106 at hF
  refine a_iconst (v := (0 : Int32)) dX11_paid_106 (by decide) ?_
  exact w_X11_paid_107 (l := l) hZ  h71_ w71_ h148_ w148_ v6 v7 (0 : Int32)  _ hF
def F_X11_paid_71 (g : Nat × Nat) (a1 : Int32) (a2 : Int32) (a3 : Int32) (a4 : Int32) (h148_ : Int32 → St → Option (Int32 × St)) : Nat → Int32 → Int32 → St → Option (Int32 × St)
  | 0, _, _, _ => none
  | n_ + 1, v6, v7, s => (if (a3 + (a3 * a3)) ≤ v7 then (h148_ v6 s) else (if v7 < a3 then (F_X11_paid_106 g a1 a2 a3 a4 (F_X11_paid_71 g a1 a2 a3 a4 h148_ n_) h148_ v6 v7 s) else (gd (ne0 a3) (gd (ne0 a3) (if ((v7 - a3) / a3) = ((v7 - a3) - (v7 - a3) / a3 * a3) then (F_X11_paid_107 g a1 a2 a3 a4 (F_X11_paid_71 g a1 a2 a3 a4 h148_ n_) h148_ v6 v7 (1 : Int32) s) else (F_X11_paid_106 g a1 a2 a3 a4 (F_X11_paid_71 g a1 a2 a3 a4 h148_ n_) h148_ v6 v7 s))))))
set_option maxRecDepth 100000 in
set_option maxHeartbeats 4000000 in
theorem w_X11_paid_71 {Z : ZE} {l : Launch} (hZ : OkM Z) {a1 : Int32} {a2 : Int32} {a3 : Int32} {a4 : Int32}  {R : Int32 × St} (h148_ : Int32 → St → Option (Int32 × St)) (w148_ : ∀ (v6 : Int32)  (s : St), h148_ v6 s = some R → AW Z l iX11_paid (Pq (rI R)) 0 0 148 [(0, .ref (za Z 60 0)), (3, .int a3), (4, .int a4), (6, .int v6)] [] s) : ∀ (n_ : Nat) (v6 : Int32) (v7 : Int32)  (s : St), F_X11_paid_71 (zg Z) a1 a2 a3 a4 h148_ n_ v6 v7 s = some R → AW Z l iX11_paid (Pq (rI R)) 0 0 71 [(0, .ref (za Z 60 0)), (3, .int a3), (4, .int a4), (6, .int v6), (7, .int v7)] [] s := by
  intro n_
  induction n_ with
  | zero =>
    intro v6 v7 s hF
    exact absurd hF (by rw [F_X11_paid_71]; exact fun q => by cases q)
  | succ n_ w71_ =>
    intro v6 v7 s hF
    rw [F_X11_paid_71] at hF
    refine a_iload dX11_paid_71 4 rfl ?_
    refine a_iload_n dX11_paid_73 1 rfl rfl ?_
    refine a_iload_n dX11_paid_74 1 rfl rfl ?_
    refine a_iload_n dX11_paid_75 1 rfl rfl ?_
    refine a_imul dX11_paid_76 ?_
    refine a_iadd dX11_paid_77 ?_
    refine a_icmp_ge 148 dX11_paid_78 (by decide) (fun c1 => ?_) (fun c1 => ?_)
    · replace hF := (if_pos c1).symm.trans hF
      refine a_loc [(0, .ref (za Z 60 0)), (3, .int a3), (4, .int a4), (6, .int v6)] [0, 1, 2, 3] rfl ?_
      exact w148_ v6  _ hF
    · replace hF := (if_neg c1).symm.trans hF
      refine a_iload dX11_paid_81 4 rfl ?_
      refine a_iload_n dX11_paid_83 1 rfl rfl ?_
      refine a_icmp_lt 106 dX11_paid_84 (by decide) (fun c2 => ?_) (fun c2 => ?_)
      · replace hF := (if_pos c2).symm.trans hF
        exact w_X11_paid_106 (l := l) hZ  (F_X11_paid_71 (zg Z) a1 a2 a3 a4 h148_ n_) w71_ h148_ w148_ v6 v7  _ hF
      · replace hF := (if_neg c2).symm.trans hF
        refine a_iload dX11_paid_87 4 rfl ?_
        refine a_iload_n dX11_paid_89 1 rfl rfl ?_
        refine a_isub dX11_paid_90 ?_
        refine a_iload_n dX11_paid_91 1 rfl rfl ?_
        obtain ⟨b3, hF⟩ := gd_some hF
        refine a_idiv dX11_paid_92 (ne0_n b3) ?_
        refine a_iload dX11_paid_93 4 rfl ?_
        refine a_iload_n dX11_paid_95 1 rfl rfl ?_
        refine a_isub dX11_paid_96 ?_
        refine a_iload_n dX11_paid_97 1 rfl rfl ?_
        obtain ⟨b4, hF⟩ := gd_some hF
        refine a_irem dX11_paid_98 (ne0_n b4) ?_
        refine a_icmp_ne 106 dX11_paid_99 (by decide) (fun c5 => ?_) (fun c5 => ?_)
        · replace hF := (if_neg c5).symm.trans hF
          exact w_X11_paid_106 (l := l) hZ  (F_X11_paid_71 (zg Z) a1 a2 a3 a4 h148_ n_) w71_ h148_ w148_ v6 v7  _ hF
        · replace hF := (if_pos c5).symm.trans hF
          refine a_iconst (v := (1 : Int32)) dX11_paid_102 (by decide) ?_
          refine a_goto 107 dX11_paid_103 (by decide) ?_
          exact w_X11_paid_107 (l := l) hZ  (F_X11_paid_71 (zg Z) a1 a2 a3 a4 h148_ n_) w71_ h148_ w148_ v6 v7 (1 : Int32)  _ hF
def F_X11_paid (g : Nat × Nat) (a1 : Int32) (a2 : Int32) (a3 : Int32) (a4 : Int32)   (s : St) : Option (Int32 × St) := (bd (F_X11_isSheet g a1 (up s 60 0 0 (0 : Int32))) (fun r6 s6 => (if r6 = 0 then (some ((-1000001), s6)) else (bd (F_X11_in g a3.toInt64 (1 : Int64) (8 : Int64) s6) (fun r18 s18 => (if r18 = 0 then (some ((-1000001), s18)) else (bd (F_X11_in g a4.toInt64 (0 : Int64) a3.toInt64 s18) (fun r30 s30 => (if r30 = 0 then (some ((-1000001), s30)) else (bd (F_X11_lookItems g a1 a2 (a3 + (a3 * a3)) s30) (fun r47 s47 => (if 0 ≤ r47 then ((F_X11_paid_71 g a1 a2 a3 a4 (F_X11_paid_148 g a1 a2 a3 a4 ) fu) (((80 : Int32) * a1) + a2) (0 : Int32) s47) else (some (r47, s47))))))))))))))
set_option maxRecDepth 100000 in
set_option maxHeartbeats 4000000 in
theorem w_X11_paid {Z : ZE} {l : Launch} (hZ : OkM Z) {a1 : Int32} {a2 : Int32} {a3 : Int32} {a4 : Int32}  {R : Int32 × St}    (s : St) (hF : F_X11_paid (zg Z) a1 a2 a3 a4  s = some R) : AW Z l iX11_paid (Pq (rI R)) 0 0 0 [(0, .ref (za Z 60 0)), (1, .int a1), (2, .int a2), (3, .int a3), (4, .int a4)] [] s := by
  unfold F_X11_paid at hF
  refine a_aload_n dX11_paid_0 0 rfl rfl ?_
  refine a_iconst (v := (0 : Int32)) dX11_paid_1 (by decide) ?_
  refine a_put hZ.1 (hZ.2 60 0 (by decide) (by decide) Nat.one_pos) fl_X11_1 rfl rfl rfl dX11_paid_2 ?_
  refine a_iload_n dX11_paid_5 1 rfl rfl ?_
  obtain ⟨r6, s6, e6, hF⟩ := bd_some hF
  refine a_invS hZ.1 (As := [.int a1]) (rest := []) lk_X11_130 ⟨⟨by decide, by decide⟩, by decide, by decide⟩ rfl (Nat.le_of_ble_eq_true rfl) dX11_paid_6 (m_X11_isSheet hZ  e6) ?_
  show AW Z l iX11_paid (Pq (rI R)) 0 0 9 [(0, .ref (za Z 60 0)), (1, .int a1), (2, .int a2), (3, .int a3), (4, .int a4)] [.int r6] s6
  refine a_if_eq 36 dX11_paid_9 (by decide) (fun c1 => ?_) (fun c1 => ?_)
  · replace hF := (if_pos c1).symm.trans hF
    refine a_ldc (v := (-1000001)) kw_1136 dX11_paid_36 ?_
    replace hF := Option.some.inj hF
    subst hF
    exact a_iret rfl (Nat.zero_le _) (Nat.zero_le _) dX11_paid_38 ⟨rfl, rfl⟩
  · replace hF := (if_neg c1).symm.trans hF
    refine a_iload_n dX11_paid_12 3 rfl rfl ?_
    refine a_i2l dX11_paid_13 ?_
    refine a_lconst (v := (1 : Int64)) dX11_paid_14 (by decide) ?_
    refine a_ldc2 (v := (8 : Int64)) kw_1256 dX11_paid_15 ?_
    obtain ⟨r18, s18, e18, hF⟩ := bd_some hF
    refine a_invS hZ.1 (As := [.long a3.toInt64, .long (1 : Int64), .long (8 : Int64)]) (rest := []) lk_X11_126 ⟨⟨by decide, by decide⟩, by decide, by decide⟩ rfl (Nat.le_of_ble_eq_true rfl) dX11_paid_18 (m_X11_in hZ  e18) ?_
    show AW Z l iX11_paid (Pq (rI R)) 0 0 21 [(0, .ref (za Z 60 0)), (1, .int a1), (2, .int a2), (3, .int a3), (4, .int a4)] [.int r18] s18
    refine a_if_eq 36 dX11_paid_21 (by decide) (fun c2 => ?_) (fun c2 => ?_)
    · replace hF := (if_pos c2).symm.trans hF
      refine a_ldc (v := (-1000001)) kw_1136 dX11_paid_36 ?_
      replace hF := Option.some.inj hF
      subst hF
      exact a_iret rfl (Nat.zero_le _) (Nat.zero_le _) dX11_paid_38 ⟨rfl, rfl⟩
    · replace hF := (if_neg c2).symm.trans hF
      refine a_iload dX11_paid_24 4 rfl ?_
      refine a_i2l dX11_paid_26 ?_
      refine a_lconst (v := (0 : Int64)) dX11_paid_27 (by decide) ?_
      refine a_iload_n dX11_paid_28 3 rfl rfl ?_
      refine a_i2l dX11_paid_29 ?_
      obtain ⟨r30, s30, e30, hF⟩ := bd_some hF
      refine a_invS hZ.1 (As := [.long a4.toInt64, .long (0 : Int64), .long a3.toInt64]) (rest := []) lk_X11_126 ⟨⟨by decide, by decide⟩, by decide, by decide⟩ rfl (Nat.le_of_ble_eq_true rfl) dX11_paid_30 (m_X11_in hZ  e30) ?_
      show AW Z l iX11_paid (Pq (rI R)) 0 0 33 [(0, .ref (za Z 60 0)), (1, .int a1), (2, .int a2), (3, .int a3), (4, .int a4)] [.int r30] s30
      refine a_if_ne 39 dX11_paid_33 (by decide) (fun c3 => ?_) (fun c3 => ?_)
      · replace hF := (if_neg c3).symm.trans hF
        refine a_aload_n dX11_paid_39 0 rfl rfl ?_
        refine a_iload_n dX11_paid_40 1 rfl rfl ?_
        refine a_iload_n dX11_paid_41 2 rfl rfl ?_
        refine a_iload_n dX11_paid_42 3 rfl rfl ?_
        refine a_iload_n dX11_paid_43 3 rfl rfl ?_
        refine a_iload_n dX11_paid_44 3 rfl rfl ?_
        refine a_imul dX11_paid_45 ?_
        refine a_iadd dX11_paid_46 ?_
        obtain ⟨r47, s47, e47, hF⟩ := bd_some hF
        refine a_invV hZ.1 (As := [.int a1, .int a2, .int (a3 + (a3 * a3))]) (rest := []) (hZ.2 60 0 (by decide) (by decide) Nat.one_pos) lk_X11_316 ⟨⟨by decide, by decide⟩, by decide, by decide⟩ rfl (Nat.le_of_ble_eq_true rfl) dX11_paid_47 (m_X11_lookItems hZ  e47) ?_
        show AW Z l iX11_paid (Pq (rI R)) 0 0 50 [(0, .ref (za Z 60 0)), (1, .int a1), (2, .int a2), (3, .int a3), (4, .int a4)] [.int r47] s47
        refine a_istore [(5, .int r47), (0, .ref (za Z 60 0)), (1, .int a1), (2, .int a2), (3, .int a3), (4, .int a4)] dX11_paid_50 (by decide) rfl ?_
        refine a_iload dX11_paid_52 0 rfl ?_
        refine a_if_ge 60 dX11_paid_54 (by decide) (fun c4 => ?_) (fun c4 => ?_)
        · replace hF := (if_pos c4).symm.trans hF
          refine a_bipush (v := (80 : Int32)) dX11_paid_60 (by decide) ?_
          refine a_iload_n dX11_paid_62 2 rfl rfl ?_
          refine a_imul dX11_paid_63 ?_
          refine a_iload_n dX11_paid_64 3 rfl rfl ?_
          refine a_iadd dX11_paid_65 ?_
          refine a_istore [(6, .int (((80 : Int32) * a1) + a2)), (5, .int r47), (0, .ref (za Z 60 0)), (1, .int a1), (2, .int a2), (3, .int a3), (4, .int a4)] dX11_paid_66 (by decide) rfl ?_
          refine a_iconst (v := (0 : Int32)) dX11_paid_68 (by decide) ?_
          refine a_istore [(7, .int (0 : Int32)), (6, .int (((80 : Int32) * a1) + a2)), (5, .int r47), (0, .ref (za Z 60 0)), (1, .int a1), (2, .int a2), (3, .int a3), (4, .int a4)] dX11_paid_69 (by decide) rfl ?_
          refine a_loc [(0, .ref (za Z 60 0)), (3, .int a3), (4, .int a4), (6, .int (((80 : Int32) * a1) + a2)), (7, .int (0 : Int32))] [3, 6, 7, 1, 0] rfl ?_
          exact w_X11_paid_71 (l := l) hZ  (F_X11_paid_148 (zg Z) a1 a2 a3 a4 ) (w_X11_paid_148 (l := l) hZ  ) fu (((80 : Int32) * a1) + a2) (0 : Int32)  _ hF
        · replace hF := (if_neg c4).symm.trans hF
          refine a_iload dX11_paid_57 0 rfl ?_
          replace hF := Option.some.inj hF
          subst hF
          exact a_iret rfl (Nat.zero_le _) (Nat.zero_le _) dX11_paid_59 ⟨rfl, rfl⟩
      · replace hF := (if_pos c3).symm.trans hF
        refine a_ldc (v := (-1000001)) kw_1136 dX11_paid_36 ?_
        replace hF := Option.some.inj hF
        subst hF
        exact a_iret rfl (Nat.zero_le _) (Nat.zero_le _) dX11_paid_38 ⟨rfl, rfl⟩
theorem m_X11_paid {Z : ZE} {l : Launch} (hZ : OkM Z) {a1 : Int32} {a2 : Int32} {a3 : Int32} {a4 : Int32}  {s : St} {R : Int32 × St} (hF : F_X11_paid (zg Z) a1 a2 a3 a4 s = some R) : Sp Z l yX11_paid iX11_paid [.ref (za Z 60 0), .int a1, .int a2, .int a3, .int a4] s (rI R) :=
  Sp.of (by decide) rfl (Nat.le_of_ble_eq_true rfl) (w_X11_paid hZ  s hF)
