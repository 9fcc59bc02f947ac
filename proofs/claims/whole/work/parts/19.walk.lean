-- X11_thing
def F_X11_thing_85 (g : Nat × Nat) (a1 : Int32) (a2 : Int32) (a3 : Int32)   (s : St) : Option (Int32 × St) := (if (s 60 0 47) = (16 : Int32) then (some ((-1000003), s)) else (gd (inb (s 60 0 47) 16) (gd (inb (s 60 0 47) 16) (gd (inb (s 60 0 47) 16) (some ((((s 60 0 47) + (1 : Int32)) - (1 : Int32)), (up (up (up (up s 88 0 (s 60 0 47).toNatClampNeg a1) 89 0 (s 60 0 47).toNatClampNeg a2) 90 0 (s 60 0 47).toNatClampNeg a3) 60 0 47 ((s 60 0 47) + (1 : Int32)))))))))
set_option maxRecDepth 100000 in
set_option maxHeartbeats 4000000 in
theorem w_X11_thing_85 {Z : ZE} {l : Launch} (hZ : OkM Z) {a1 : Int32} {a2 : Int32} {a3 : Int32}  {R : Int32 × St}    (s : St) (hF : F_X11_thing_85 (zg Z) a1 a2 a3  s = some R) : AW Z l iX11_thing (Pq (rI R)) 0 0 85 [(0, .ref (za Z 60 0)), (1, .int a1), (2, .int a2), (3, .int a3)] [] s := by
  unfold F_X11_thing_85 at hF
  refine a_aload_n dX11_thing_85 0 rfl rfl ?_
  refine a_getI hZ.1 (s 60 0 47) (hZ.2 60 0 (by decide) (by decide) Nat.one_pos) fl_X11_326 rfl rfl dX11_thing_86 ?_
  refine a_bipush (v := (16 : Int32)) dX11_thing_89 (by decide) ?_
  refine a_icmp_ne 97 dX11_thing_91 (by decide) (fun c1 => ?_) (fun c1 => ?_)
  · replace hF := (if_neg c1).symm.trans hF
    refine a_aload_n dX11_thing_97 0 rfl rfl ?_
    refine a_getR hZ.1 (hZ.2 60 0 (by decide) (by decide) Nat.one_pos) fl_X11_103 rfl 0 rfl dX11_thing_98 ?_
    refine a_aload_n dX11_thing_101 0 rfl rfl ?_
    refine a_getI hZ.1 (s 60 0 47) (hZ.2 60 0 (by decide) (by decide) Nat.one_pos) fl_X11_326 rfl rfl dX11_thing_102 ?_
    refine a_iload_n dX11_thing_105 1 rfl rfl ?_
    obtain ⟨b2, hF⟩ := gd_some hF
    refine a_iast hZ.1 (hZ.2 88 0 (by decide) (by decide) Nat.one_pos) rfl rfl (inb_vp b2) dX11_thing_106 ?_
    refine a_aload_n dX11_thing_107 0 rfl rfl ?_
    refine a_getR hZ.1 (hZ.2 60 0 (by decide) (by decide) Nat.one_pos) fl_X11_106 rfl 0 rfl dX11_thing_108 ?_
    refine a_aload_n dX11_thing_111 0 rfl rfl ?_
    refine a_getI hZ.1 (s 60 0 47) (hZ.2 60 0 (by decide) (by decide) Nat.one_pos) fl_X11_326 rfl rfl dX11_thing_112 ?_
    refine a_iload_n dX11_thing_115 2 rfl rfl ?_
    obtain ⟨b3, hF⟩ := gd_some hF
    refine a_iast hZ.1 (hZ.2 89 0 (by decide) (by decide) Nat.one_pos) rfl rfl (inb_vp b3) dX11_thing_116 ?_
    refine a_aload_n dX11_thing_117 0 rfl rfl ?_
    refine a_getR hZ.1 (hZ.2 60 0 (by decide) (by decide) Nat.one_pos) fl_X11_109 rfl 0 rfl dX11_thing_118 ?_
    refine a_aload_n dX11_thing_121 0 rfl rfl ?_
    refine a_getI hZ.1 (s 60 0 47) (hZ.2 60 0 (by decide) (by decide) Nat.one_pos) fl_X11_326 rfl rfl dX11_thing_122 ?_
    refine a_iload_n dX11_thing_125 3 rfl rfl ?_
    obtain ⟨b4, hF⟩ := gd_some hF
    refine a_iast hZ.1 (hZ.2 90 0 (by decide) (by decide) Nat.one_pos) rfl rfl (inb_vp b4) dX11_thing_126 ?_
    refine a_aload_n dX11_thing_127 0 rfl rfl ?_
    refine a_dup dX11_thing_128 rfl ?_
    refine a_getI hZ.1 (s 60 0 47) (hZ.2 60 0 (by decide) (by decide) Nat.one_pos) fl_X11_326 rfl rfl dX11_thing_129 ?_
    refine a_iconst (v := (1 : Int32)) dX11_thing_132 (by decide) ?_
    refine a_iadd dX11_thing_133 ?_
    refine a_put hZ.1 (hZ.2 60 0 (by decide) (by decide) Nat.one_pos) fl_X11_326 rfl rfl rfl dX11_thing_134 ?_
    refine a_aload_n dX11_thing_137 0 rfl rfl ?_
    refine a_getI hZ.1 ((s 60 0 47) + (1 : Int32)) (hZ.2 60 0 (by decide) (by decide) Nat.one_pos) fl_X11_326 rfl (by simp [up]) dX11_thing_138 ?_
    refine a_iconst (v := (1 : Int32)) dX11_thing_141 (by decide) ?_
    refine a_isub dX11_thing_142 ?_
    replace hF := Option.some.inj hF
    subst hF
    exact a_iret rfl (Nat.zero_le _) (Nat.zero_le _) dX11_thing_143 ⟨rfl, rfl⟩
  · replace hF := (if_pos c1).symm.trans hF
    refine a_ldc (v := (-1000003)) kw_1176 dX11_thing_94 ?_
    replace hF := Option.some.inj hF
    subst hF
    exact a_iret rfl (Nat.zero_le _) (Nat.zero_le _) dX11_thing_96 ⟨rfl, rfl⟩
def F_X11_thing_57 (g : Nat × Nat) (a1 : Int32) (a2 : Int32) (a3 : Int32)  (v4 : Int32) (s : St) : Option (Int32 × St) := (if v4 = 0 then (F_X11_thing_85 g a1 a2 a3   s) else (bd (F_X11_isThing g a3 s) (fun r64 s64 => (if r64 = 0 then (some ((-1000001), s64)) else (gd (inb a3 16) (if (s64 88 0 a3.toNatClampNeg) = (a1 - (1 : Int32)) then (F_X11_thing_85 g a1 a2 a3   s64) else (some ((-1000001), s64))))))))
set_option maxRecDepth 100000 in
set_option maxHeartbeats 4000000 in
theorem w_X11_thing_57 {Z : ZE} {l : Launch} (hZ : OkM Z) {a1 : Int32} {a2 : Int32} {a3 : Int32}  {R : Int32 × St}  (v4 : Int32)  (s : St) (hF : F_X11_thing_57 (zg Z) a1 a2 a3 v4 s = some R) : AW Z l iX11_thing (Pq (rI R)) 0 0 57 [(0, .ref (za Z 60 0)), (1, .int a1), (2, .int a2), (3, .int a3), (4, .int v4)] [] s := by
  unfold F_X11_thing_57 at hF
  refine a_iload dX11_thing_57 4 rfl ?_
  refine a_if_eq 85 dX11_thing_59 (by decide) (fun c1 => ?_) (fun c1 => ?_)
  · replace hF := (if_pos c1).symm.trans hF
    refine a_loc [(0, .ref (za Z 60 0)), (1, .int a1), (2, .int a2), (3, .int a3)] [0, 1, 2, 3] rfl ?_
    exact w_X11_thing_85 (l := l) hZ     _ hF
  · replace hF := (if_neg c1).symm.trans hF
    refine a_aload_n dX11_thing_62 0 rfl rfl ?_
    refine a_iload_n dX11_thing_63 3 rfl rfl ?_
    obtain ⟨r64, s64, e64, hF⟩ := bd_some hF
    refine a_invV hZ.1 (As := [.int a3]) (rest := []) (hZ.2 60 0 (by decide) (by decide) Nat.one_pos) lk_X11_329 ⟨⟨by decide, by decide⟩, by decide, by decide⟩ rfl (Nat.le_of_ble_eq_true rfl) dX11_thing_64 (m_X11_isThing hZ  e64) ?_
    show AW Z l iX11_thing (Pq (rI R)) 0 0 67 [(0, .ref (za Z 60 0)), (1, .int a1), (2, .int a2), (3, .int a3), (4, .int v4)] [.int r64] s64
    refine a_if_eq 82 dX11_thing_67 (by decide) (fun c2 => ?_) (fun c2 => ?_)
    · replace hF := (if_pos c2).symm.trans hF
      refine a_ldc (v := (-1000001)) kw_1136 dX11_thing_82 ?_
      replace hF := Option.some.inj hF
      subst hF
      exact a_iret rfl (Nat.zero_le _) (Nat.zero_le _) dX11_thing_84 ⟨rfl, rfl⟩
    · replace hF := (if_neg c2).symm.trans hF
      refine a_aload_n dX11_thing_70 0 rfl rfl ?_
      refine a_getR hZ.1 (hZ.2 60 0 (by decide) (by decide) Nat.one_pos) fl_X11_103 rfl 0 rfl dX11_thing_71 ?_
      refine a_iload_n dX11_thing_74 3 rfl rfl ?_
      obtain ⟨b3, hF⟩ := gd_some hF
      refine a_iald hZ.1 (s64 88 0 a3.toNatClampNeg) (hZ.2 88 0 (by decide) (by decide) Nat.one_pos) rfl rfl (inb_vp b3) rfl dX11_thing_75 ?_
      refine a_iload_n dX11_thing_76 1 rfl rfl ?_
      refine a_iconst (v := (1 : Int32)) dX11_thing_77 (by decide) ?_
      refine a_isub dX11_thing_78 ?_
      refine a_icmp_eq 85 dX11_thing_79 (by decide) (fun c4 => ?_) (fun c4 => ?_)
      · replace hF := (if_pos c4).symm.trans hF
        refine a_loc [(0, .ref (za Z 60 0)), (1, .int a1), (2, .int a2), (3, .int a3)] [0, 1, 2, 3] rfl ?_
        exact w_X11_thing_85 (l := l) hZ     _ hF
      · replace hF := (if_neg c4).symm.trans hF
        refine a_ldc (v := (-1000001)) kw_1136 dX11_thing_82 ?_
        replace hF := Option.some.inj hF
        subst hF
        exact a_iret rfl (Nat.zero_le _) (Nat.zero_le _) dX11_thing_84 ⟨rfl, rfl⟩
def F_X11_thing_20 (g : Nat × Nat) (a1 : Int32) (a2 : Int32) (a3 : Int32)  (x0 : Int32) (s : St) : Option (Int32 × St) := (bd (F_X11_in g a1.toInt64 (0 : Int64) (5 : Int64) s) (fun r28 s28 => (if r28 = 0 then (some ((-1000001), s28)) else (bd (F_X11_in g a2.toInt64 (0 : Int64) (999 : Int64) s28) (fun r40 s40 => (if r40 = 0 then (some ((-1000001), s40)) else (if x0 = 0 then (if a3 = (-1000000) then (F_X11_thing_57 g a1 a2 a3  x0 s40) else (some ((-1000001), s40))) else (F_X11_thing_57 g a1 a2 a3  x0 s40))))))))
set_option maxRecDepth 100000 in
set_option maxHeartbeats 4000000 in
theorem w_X11_thing_20 {Z : ZE} {l : Launch} (hZ : OkM Z) {a1 : Int32} {a2 : Int32} {a3 : Int32}  {R : Int32 × St}  (x0 : Int32)  (s : St) (hF : F_X11_thing_20 (zg Z) a1 a2 a3 x0 s = some R) : AW Z l iX11_thing (Pq (rI R)) 0 0 20 [(0, .ref (za Z 60 0)), (1, .int a1), (2, .int a2), (3, .int a3)] [.int x0] s := by
  unfold F_X11_thing_20 at hF
  refine a_istore [(4, .int x0), (0, .ref (za Z 60 0)), (1, .int a1), (2, .int a2), (3, .int a3)] dX11_thing_20 (by decide) rfl ?_
  refine a_iload_n dX11_thing_22 2 rfl rfl ?_
  refine a_i2l dX11_thing_23 ?_
  refine a_lconst (v := (0 : Int64)) dX11_thing_24 (by decide) ?_
  refine a_ldc2 (v := (5 : Int64)) kw_1247 dX11_thing_25 ?_
  obtain ⟨r28, s28, e28, hF⟩ := bd_some hF
  refine a_invS hZ.1 (As := [.long a1.toInt64, .long (0 : Int64), .long (5 : Int64)]) (rest := []) lk_X11_126 ⟨⟨by decide, by decide⟩, by decide, by decide⟩ rfl (Nat.le_of_ble_eq_true rfl) dX11_thing_28 (m_X11_in hZ  e28) ?_
  show AW Z l iX11_thing (Pq (rI R)) 0 0 31 [(4, .int x0), (0, .ref (za Z 60 0)), (1, .int a1), (2, .int a2), (3, .int a3)] [.int r28] s28
  refine a_if_eq 82 dX11_thing_31 (by decide) (fun c1 => ?_) (fun c1 => ?_)
  · replace hF := (if_pos c1).symm.trans hF
    refine a_ldc (v := (-1000001)) kw_1136 dX11_thing_82 ?_
    replace hF := Option.some.inj hF
    subst hF
    exact a_iret rfl (Nat.zero_le _) (Nat.zero_le _) dX11_thing_84 ⟨rfl, rfl⟩
  · replace hF := (if_neg c1).symm.trans hF
    refine a_iload_n dX11_thing_34 3 rfl rfl ?_
    refine a_i2l dX11_thing_35 ?_
    refine a_lconst (v := (0 : Int64)) dX11_thing_36 (by decide) ?_
    refine a_ldc2 (v := (999 : Int64)) kw_1330 dX11_thing_37 ?_
    obtain ⟨r40, s40, e40, hF⟩ := bd_some hF
    refine a_invS hZ.1 (As := [.long a2.toInt64, .long (0 : Int64), .long (999 : Int64)]) (rest := []) lk_X11_126 ⟨⟨by decide, by decide⟩, by decide, by decide⟩ rfl (Nat.le_of_ble_eq_true rfl) dX11_thing_40 (m_X11_in hZ  e40) ?_
    show AW Z l iX11_thing (Pq (rI R)) 0 0 43 [(4, .int x0), (0, .ref (za Z 60 0)), (1, .int a1), (2, .int a2), (3, .int a3)] [.int r40] s40
    refine a_if_eq 82 dX11_thing_43 (by decide) (fun c2 => ?_) (fun c2 => ?_)
    · replace hF := (if_pos c2).symm.trans hF
      refine a_ldc (v := (-1000001)) kw_1136 dX11_thing_82 ?_
      replace hF := Option.some.inj hF
      subst hF
      exact a_iret rfl (Nat.zero_le _) (Nat.zero_le _) dX11_thing_84 ⟨rfl, rfl⟩
    · replace hF := (if_neg c2).symm.trans hF
      refine a_iload dX11_thing_46 0 rfl ?_
      refine a_if_ne 57 dX11_thing_48 (by decide) (fun c3 => ?_) (fun c3 => ?_)
      · replace hF := (if_neg c3).symm.trans hF
        refine a_loc [(0, .ref (za Z 60 0)), (1, .int a1), (2, .int a2), (3, .int a3), (4, .int x0)] [1, 2, 3, 4, 0] rfl ?_
        exact w_X11_thing_57 (l := l) hZ   x0  _ hF
      · replace hF := (if_pos c3).symm.trans hF
        refine a_iload_n dX11_thing_51 4 rfl rfl ?_
        refine a_ldc (v := (-1000000)) kw_951 dX11_thing_52 ?_
        refine a_icmp_ne 82 dX11_thing_54 (by decide) (fun c4 => ?_) (fun c4 => ?_)
        · replace hF := (if_neg c4).symm.trans hF
          refine a_ldc (v := (-1000001)) kw_1136 dX11_thing_82 ?_
          replace hF := Option.some.inj hF
          subst hF
          exact a_iret rfl (Nat.zero_le _) (Nat.zero_le _) dX11_thing_84 ⟨rfl, rfl⟩
        · replace hF := (if_pos c4).symm.trans hF
          refine a_loc [(0, .ref (za Z 60 0)), (1, .int a1), (2, .int a2), (3, .int a3), (4, .int x0)] [1, 2, 3, 4, 0] rfl ?_
          exact w_X11_thing_57 (l := l) hZ   x0  _ hF
def F_X11_thing_15 (g : Nat × Nat) (a1 : Int32) (a2 : Int32) (a3 : Int32)   (s : St) : Option (Int32 × St) := (F_X11_thing_20 g a1 a2 a3  (1 : Int32) s)
set_option maxRecDepth 100000 in
set_option maxHeartbeats 4000000 in
theorem w_X11_thing_15 {Z : ZE} {l : Launch} (hZ : OkM Z) {a1 : Int32} {a2 : Int32} {a3 : Int32}  {R : Int32 × St}    (s : St) (hF : F_X11_thing_15 (zg Z) a1 a2 a3  s = some R) : AW Z l iX11_thing (Pq (rI R)) 0 0 15 [(0, .ref (za Z 60 0)), (1, .int a1), (2, .int a2), (3, .int a3)] [] s := by
  unfold F_X11_thing_15 at hF
  refine a_iconst (v := (1 : Int32)) dX11_thing_15 (by decide) ?_
  refine a_goto 20 dX11_thing_16 (by decide) ?_
  exact w_X11_thing_20 (l := l) hZ   (1 : Int32)  _ hF
def F_X11_thing (g : Nat × Nat) (a1 : Int32) (a2 : Int32) (a3 : Int32)   (s : St) : Option (Int32 × St) := (if a1 = (2 : Int32) then (F_X11_thing_15 g a1 a2 a3   (up s 60 0 0 (0 : Int32))) else (if a1 = (3 : Int32) then (F_X11_thing_15 g a1 a2 a3   (up s 60 0 0 (0 : Int32))) else (F_X11_thing_20 g a1 a2 a3  (0 : Int32) (up s 60 0 0 (0 : Int32)))))
set_option maxRecDepth 100000 in
set_option maxHeartbeats 4000000 in
theorem w_X11_thing {Z : ZE} {l : Launch} (hZ : OkM Z) {a1 : Int32} {a2 : Int32} {a3 : Int32}  {R : Int32 × St}    (s : St) (hF : F_X11_thing (zg Z) a1 a2 a3  s = some R) : AW Z l iX11_thing (Pq (rI R)) 0 0 0 [(0, .ref (za Z 60 0)), (1, .int a1), (2, .int a2), (3, .int a3)] [] s := by
  unfold F_X11_thing at hF
  refine a_aload_n dX11_thing_0 0 rfl rfl ?_
  refine a_iconst (v := (0 : Int32)) dX11_thing_1 (by decide) ?_
  refine a_put hZ.1 (hZ.2 60 0 (by decide) (by decide) Nat.one_pos) fl_X11_1 rfl rfl rfl dX11_thing_2 ?_
  refine a_iload_n dX11_thing_5 1 rfl rfl ?_
  refine a_iconst (v := (2 : Int32)) dX11_thing_6 (by decide) ?_
  refine a_icmp_eq 15 dX11_thing_7 (by decide) (fun c1 => ?_) (fun c1 => ?_)
  · replace hF := (if_pos c1).symm.trans hF
    exact w_X11_thing_15 (l := l) hZ     _ hF
  · replace hF := (if_neg c1).symm.trans hF
    refine a_iload_n dX11_thing_10 1 rfl rfl ?_
    refine a_iconst (v := (3 : Int32)) dX11_thing_11 (by decide) ?_
    refine a_icmp_ne 19 dX11_thing_12 (by decide) (fun c2 => ?_) (fun c2 => ?_)
    · replace hF := (if_neg c2).symm.trans hF
      refine a_iconst (v := (0 : Int32)) dX11_thing_19 (by decide) ?_
      exact w_X11_thing_20 (l := l) hZ   (0 : Int32)  _ hF
    · replace hF := (if_pos c2).symm.trans hF
      exact w_X11_thing_15 (l := l) hZ     _ hF
theorem m_X11_thing {Z : ZE} {l : Launch} (hZ : OkM Z) {a1 : Int32} {a2 : Int32} {a3 : Int32}  {s : St} {R : Int32 × St} (hF : F_X11_thing (zg Z) a1 a2 a3 s = some R) : Sp Z l yX11_thing iX11_thing [.ref (za Z 60 0), .int a1, .int a2, .int a3] s (rI R) :=
  Sp.of (by decide) rfl (Nat.le_of_ble_eq_true rfl) (w_X11_thing hZ  s hF)
-- X11_told
def F_X11_told_69 (g : Nat × Nat) (a1 : Int32) (a2 : Int32) (h39_ : Int32 → Int32 → St → Option (Int32 × St)) (v4 : Int32) (x0 : Int32) (x1 : Int32) (s : St) : Option (Int32 × St) := (h39_ (x0 + x1) (v4 + 1) s)
set_option maxRecDepth 100000 in
set_option maxHeartbeats 4000000 in
theorem w_X11_told_69 {Z : ZE} {l : Launch} (hZ : OkM Z) {a1 : Int32} {a2 : Int32}  {R : Int32 × St} (h39_ : Int32 → Int32 → St → Option (Int32 × St)) (w39_ : ∀ (v3 : Int32) (v4 : Int32)  (s : St), h39_ v3 v4 s = some R → AW Z l iX11_told (Pq (rI R)) 0 0 39 [(0, .ref (za Z 60 0)), (1, .int a1), (3, .int v3), (4, .int v4)] [] s) (v4 : Int32) (x0 : Int32) (x1 : Int32)  (s : St) (hF : F_X11_told_69 (zg Z) a1 a2 h39_ v4 x0 x1 s = some R) : AW Z l iX11_told (Pq (rI R)) 0 0 69 [(0, .ref (za Z 60 0)), (1, .int a1), (4, .int v4)] [.int x1, .int x0] s := by
  unfold F_X11_told_69 at hF
  refine a_iadd dX11_told_69 ?_
  refine a_istore_n [(3, .int (x0 + x1)), (0, .ref (za Z 60 0)), (1, .int a1), (4, .int v4)] dX11_told_70 rfl (by decide) rfl ?_
  refine a_iinc [(4, .int (v4 + 1)), (3, .int (x0 + x1)), (0, .ref (za Z 60 0)), (1, .int a1)] dX11_told_71 3 rfl rfl (by decide) rfl ?_
  refine a_goto 39 dX11_told_74 (by decide) ?_
  refine a_loc [(0, .ref (za Z 60 0)), (1, .int a1), (3, .int (x0 + x1)), (4, .int (v4 + 1))] [2, 3, 1, 0] rfl ?_
  exact w39_ (x0 + x1) (v4 + 1)  _ hF
def F_X11_told_39 (g : Nat × Nat) (a1 : Int32) (a2 : Int32)  : Nat → Int32 → Int32 → St → Option (Int32 × St)
  | 0, _, _, _ => none
  | n_ + 1, v3, v4, s => (if (100 : Int32) ≤ v4 then (some (v3, s)) else (gd (inb (((100 : Int32) * a1) + v4) 600) (if (s 76 0 (((100 : Int32) * a1) + v4).toNatClampNeg) = (-1000000) then (F_X11_told_69 g a1 a2 (F_X11_told_39 g a1 a2  n_) v4 v3 (0 : Int32) s) else (F_X11_told_69 g a1 a2 (F_X11_told_39 g a1 a2  n_) v4 v3 (1 : Int32) s))))
set_option maxRecDepth 100000 in
set_option maxHeartbeats 4000000 in
theorem w_X11_told_39 {Z : ZE} {l : Launch} (hZ : OkM Z) {a1 : Int32} {a2 : Int32}  {R : Int32 × St}  : ∀ (n_ : Nat) (v3 : Int32) (v4 : Int32)  (s : St), F_X11_told_39 (zg Z) a1 a2 n_ v3 v4 s = some R → AW Z l iX11_told (Pq (rI R)) 0 0 39 [(0, .ref (za Z 60 0)), (1, .int a1), (3, .int v3), (4, .int v4)] [] s := by
  intro n_
  induction n_ with
  | zero =>
    intro v3 v4 s hF
    exact absurd hF (by rw [F_X11_told_39]; exact fun q => by cases q)
  | succ n_ w39_ =>
    intro v3 v4 s hF
    rw [F_X11_told_39] at hF
    refine a_iload dX11_told_39 3 rfl ?_
    refine a_bipush (v := (100 : Int32)) dX11_told_41 (by decide) ?_
    refine a_icmp_ge 77 dX11_told_43 (by decide) (fun c1 => ?_) (fun c1 => ?_)
    · replace hF := (if_pos c1).symm.trans hF
      refine a_iload_n dX11_told_77 2 rfl rfl ?_
      replace hF := Option.some.inj hF
      subst hF
      exact a_iret rfl (Nat.zero_le _) (Nat.zero_le _) dX11_told_78 ⟨rfl, rfl⟩
    · replace hF := (if_neg c1).symm.trans hF
      refine a_iload_n dX11_told_46 2 rfl rfl ?_
      refine a_aload_n dX11_told_47 0 rfl rfl ?_
      refine a_getR hZ.1 (hZ.2 60 0 (by decide) (by decide) Nat.one_pos) fl_X11_66 rfl 0 rfl dX11_told_48 ?_
      refine a_bipush (v := (100 : Int32)) dX11_told_51 (by decide) ?_
      refine a_iload_n dX11_told_53 1 rfl rfl ?_
      refine a_imul dX11_told_54 ?_
      refine a_iload dX11_told_55 3 rfl ?_
      refine a_iadd dX11_told_57 ?_
      obtain ⟨b2, hF⟩ := gd_some hF
      refine a_iald hZ.1 (s 76 0 (((100 : Int32) * a1) + v4).toNatClampNeg) (hZ.2 76 0 (by decide) (by decide) Nat.one_pos) rfl rfl (inb_vp b2) rfl dX11_told_58 ?_
      refine a_ldc (v := (-1000000)) kw_951 dX11_told_59 ?_
      refine a_icmp_eq 68 dX11_told_61 (by decide) (fun c3 => ?_) (fun c3 => ?_)
      · replace hF := (if_pos c3).symm.trans hF
        refine a_iconst (v := (0 : Int32)) dX11_told_68 (by decide) ?_
        refine a_loc [(0, .ref (za Z 60 0)), (1, .int a1), (4, .int v4)] [0, 1, 3] rfl ?_
        exact w_X11_told_69 (l := l) hZ  (F_X11_told_39 (zg Z) a1 a2 n_) w39_ v4 v3 (0 : Int32)  _ hF
      · replace hF := (if_neg c3).symm.trans hF
        refine a_iconst (v := (1 : Int32)) dX11_told_64 (by decide) ?_
        refine a_goto 69 dX11_told_65 (by decide) ?_
        refine a_loc [(0, .ref (za Z 60 0)), (1, .int a1), (4, .int v4)] [0, 1, 3] rfl ?_
        exact w_X11_told_69 (l := l) hZ  (F_X11_told_39 (zg Z) a1 a2 n_) w39_ v4 v3 (1 : Int32)  _ hF
def F_X11_told (g : Nat × Nat) (a1 : Int32) (a2 : Int32)   (s : St) : Option (Int32 × St) := (bd (F_X11_isMill g a1 (up s 60 0 0 (0 : Int32))) (fun r7 s7 => (if r7 = 0 then (some ((-1000001), s7)) else (bd (F_X11_in g a2.toInt64 (0 : Int64) (9 : Int64) s7) (fun r19 s19 => (if r19 = 0 then (some ((-1000001), s19)) else (if a2 = (9 : Int32) then (F_X11_told_39 g a1 a2  fu (0 : Int32) (0 : Int32) s19) else (if a2 = 0 then (gd (inb a1 6) (some ((s19 70 0 a1.toNatClampNeg), s19))) else (if a2 = (1 : Int32) then (gd (inb a1 6) (some ((s19 71 0 a1.toNatClampNeg), s19))) else (if a2 = (2 : Int32) then (gd (inb a1 6) (some ((s19 72 0 a1.toNatClampNeg), s19))) else (if a2 = (3 : Int32) then (gd (inb a1 6) (some ((s19 73 0 a1.toNatClampNeg), s19))) else (if a2 = (8 : Int32) then (gd (inb a1 6) (some ((s19 75 0 a1.toNatClampNeg), s19))) else (gd (inb ((((4 : Int32) * a1) + a2) - (4 : Int32)) 24) (some ((s19 74 0 ((((4 : Int32) * a1) + a2) - (4 : Int32)).toNatClampNeg), s19)))))))))))))))
set_option maxRecDepth 100000 in
set_option maxHeartbeats 4000000 in
theorem w_X11_told {Z : ZE} {l : Launch} (hZ : OkM Z) {a1 : Int32} {a2 : Int32}  {R : Int32 × St}    (s : St) (hF : F_X11_told (zg Z) a1 a2  s = some R) : AW Z l iX11_told (Pq (rI R)) 0 0 0 [(0, .ref (za Z 60 0)), (1, .int a1), (2, .int a2)] [] s := by
  unfold F_X11_told at hF
  refine a_aload_n dX11_told_0 0 rfl rfl ?_
  refine a_iconst (v := (0 : Int32)) dX11_told_1 (by decide) ?_
  refine a_put hZ.1 (hZ.2 60 0 (by decide) (by decide) Nat.one_pos) fl_X11_1 rfl rfl rfl dX11_told_2 ?_
  refine a_aload_n dX11_told_5 0 rfl rfl ?_
  refine a_iload_n dX11_told_6 1 rfl rfl ?_
  obtain ⟨r7, s7, e7, hF⟩ := bd_some hF
  refine a_invV hZ.1 (As := [.int a1]) (rest := []) (hZ.2 60 0 (by decide) (by decide) Nat.one_pos) lk_X11_177 ⟨⟨by decide, by decide⟩, by decide, by decide⟩ rfl (Nat.le_of_ble_eq_true rfl) dX11_told_7 (m_X11_isMill hZ  e7) ?_
  show AW Z l iX11_told (Pq (rI R)) 0 0 10 [(0, .ref (za Z 60 0)), (1, .int a1), (2, .int a2)] [.int r7] s7
  refine a_if_eq 25 dX11_told_10 (by decide) (fun c1 => ?_) (fun c1 => ?_)
  · replace hF := (if_pos c1).symm.trans hF
    refine a_ldc (v := (-1000001)) kw_1136 dX11_told_25 ?_
    replace hF := Option.some.inj hF
    subst hF
    exact a_iret rfl (Nat.zero_le _) (Nat.zero_le _) dX11_told_27 ⟨rfl, rfl⟩
  · replace hF := (if_neg c1).symm.trans hF
    refine a_iload_n dX11_told_13 2 rfl rfl ?_
    refine a_i2l dX11_told_14 ?_
    refine a_lconst (v := (0 : Int64)) dX11_told_15 (by decide) ?_
    refine a_ldc2 (v := (9 : Int64)) kw_1195 dX11_told_16 ?_
    obtain ⟨r19, s19, e19, hF⟩ := bd_some hF
    refine a_invS hZ.1 (As := [.long a2.toInt64, .long (0 : Int64), .long (9 : Int64)]) (rest := []) lk_X11_126 ⟨⟨by decide, by decide⟩, by decide, by decide⟩ rfl (Nat.le_of_ble_eq_true rfl) dX11_told_19 (m_X11_in hZ  e19) ?_
    show AW Z l iX11_told (Pq (rI R)) 0 0 22 [(0, .ref (za Z 60 0)), (1, .int a1), (2, .int a2)] [.int r19] s19
    refine a_if_ne 28 dX11_told_22 (by decide) (fun c2 => ?_) (fun c2 => ?_)
    · replace hF := (if_neg c2).symm.trans hF
      refine a_iload_n dX11_told_28 2 rfl rfl ?_
      refine a_bipush (v := (9 : Int32)) dX11_told_29 (by decide) ?_
      refine a_icmp_ne 79 dX11_told_31 (by decide) (fun c3 => ?_) (fun c3 => ?_)
      · replace hF := (if_neg c3).symm.trans hF
        refine a_iload_n dX11_told_79 2 rfl rfl ?_
        refine a_if_ne 92 dX11_told_80 (by decide) (fun c4 => ?_) (fun c4 => ?_)
        · replace hF := (if_neg c4).symm.trans hF
          refine a_iload_n dX11_told_92 2 rfl rfl ?_
          refine a_iconst (v := (1 : Int32)) dX11_told_93 (by decide) ?_
          refine a_icmp_ne 106 dX11_told_94 (by decide) (fun c5 => ?_) (fun c5 => ?_)
          · replace hF := (if_neg c5).symm.trans hF
            refine a_iload_n dX11_told_106 2 rfl rfl ?_
            refine a_iconst (v := (2 : Int32)) dX11_told_107 (by decide) ?_
            refine a_icmp_ne 120 dX11_told_108 (by decide) (fun c6 => ?_) (fun c6 => ?_)
            · replace hF := (if_neg c6).symm.trans hF
              refine a_iload_n dX11_told_120 2 rfl rfl ?_
              refine a_iconst (v := (3 : Int32)) dX11_told_121 (by decide) ?_
              refine a_icmp_ne 134 dX11_told_122 (by decide) (fun c7 => ?_) (fun c7 => ?_)
              · replace hF := (if_neg c7).symm.trans hF
                refine a_iload_n dX11_told_134 2 rfl rfl ?_
                refine a_bipush (v := (8 : Int32)) dX11_told_135 (by decide) ?_
                refine a_icmp_ne 149 dX11_told_137 (by decide) (fun c8 => ?_) (fun c8 => ?_)
                · replace hF := (if_neg c8).symm.trans hF
                  refine a_aload_n dX11_told_149 0 rfl rfl ?_
                  refine a_getR hZ.1 (hZ.2 60 0 (by decide) (by decide) Nat.one_pos) fl_X11_60 rfl 0 rfl dX11_told_150 ?_
                  refine a_iconst (v := (4 : Int32)) dX11_told_153 (by decide) ?_
                  refine a_iload_n dX11_told_154 1 rfl rfl ?_
                  refine a_imul dX11_told_155 ?_
                  refine a_iload_n dX11_told_156 2 rfl rfl ?_
                  refine a_iadd dX11_told_157 ?_
                  refine a_iconst (v := (4 : Int32)) dX11_told_158 (by decide) ?_
                  refine a_isub dX11_told_159 ?_
                  obtain ⟨b9, hF⟩ := gd_some hF
                  refine a_iald hZ.1 (s19 74 0 ((((4 : Int32) * a1) + a2) - (4 : Int32)).toNatClampNeg) (hZ.2 74 0 (by decide) (by decide) Nat.one_pos) rfl rfl (inb_vp b9) rfl dX11_told_160 ?_
                  replace hF := Option.some.inj hF
                  subst hF
                  exact a_iret rfl (Nat.zero_le _) (Nat.zero_le _) dX11_told_161 ⟨rfl, rfl⟩
                · replace hF := (if_pos c8).symm.trans hF
                  refine a_aload_n dX11_told_140 0 rfl rfl ?_
                  refine a_getR hZ.1 (hZ.2 60 0 (by decide) (by decide) Nat.one_pos) fl_X11_63 rfl 0 rfl dX11_told_141 ?_
                  refine a_iload_n dX11_told_144 1 rfl rfl ?_
                  obtain ⟨b10, hF⟩ := gd_some hF
                  refine a_iald hZ.1 (s19 75 0 a1.toNatClampNeg) (hZ.2 75 0 (by decide) (by decide) Nat.one_pos) rfl rfl (inb_vp b10) rfl dX11_told_145 ?_
                  refine a_goto 161 dX11_told_146 (by decide) ?_
                  replace hF := Option.some.inj hF
                  subst hF
                  exact a_iret rfl (Nat.zero_le _) (Nat.zero_le _) dX11_told_161 ⟨rfl, rfl⟩
              · replace hF := (if_pos c7).symm.trans hF
                refine a_aload_n dX11_told_125 0 rfl rfl ?_
                refine a_getR hZ.1 (hZ.2 60 0 (by decide) (by decide) Nat.one_pos) fl_X11_57 rfl 0 rfl dX11_told_126 ?_
                refine a_iload_n dX11_told_129 1 rfl rfl ?_
                obtain ⟨b11, hF⟩ := gd_some hF
                refine a_iald hZ.1 (s19 73 0 a1.toNatClampNeg) (hZ.2 73 0 (by decide) (by decide) Nat.one_pos) rfl rfl (inb_vp b11) rfl dX11_told_130 ?_
                refine a_goto 161 dX11_told_131 (by decide) ?_
                replace hF := Option.some.inj hF
                subst hF
                exact a_iret rfl (Nat.zero_le _) (Nat.zero_le _) dX11_told_161 ⟨rfl, rfl⟩
            · replace hF := (if_pos c6).symm.trans hF
              refine a_aload_n dX11_told_111 0 rfl rfl ?_
              refine a_getR hZ.1 (hZ.2 60 0 (by decide) (by decide) Nat.one_pos) fl_X11_54 rfl 0 rfl dX11_told_112 ?_
              refine a_iload_n dX11_told_115 1 rfl rfl ?_
              obtain ⟨b12, hF⟩ := gd_some hF
              refine a_iald hZ.1 (s19 72 0 a1.toNatClampNeg) (hZ.2 72 0 (by decide) (by decide) Nat.one_pos) rfl rfl (inb_vp b12) rfl dX11_told_116 ?_
              refine a_goto 161 dX11_told_117 (by decide) ?_
              replace hF := Option.some.inj hF
              subst hF
              exact a_iret rfl (Nat.zero_le _) (Nat.zero_le _) dX11_told_161 ⟨rfl, rfl⟩
          · replace hF := (if_pos c5).symm.trans hF
            refine a_aload_n dX11_told_97 0 rfl rfl ?_
            refine a_getR hZ.1 (hZ.2 60 0 (by decide) (by decide) Nat.one_pos) fl_X11_51 rfl 0 rfl dX11_told_98 ?_
            refine a_iload_n dX11_told_101 1 rfl rfl ?_
            obtain ⟨b13, hF⟩ := gd_some hF
            refine a_iald hZ.1 (s19 71 0 a1.toNatClampNeg) (hZ.2 71 0 (by decide) (by decide) Nat.one_pos) rfl rfl (inb_vp b13) rfl dX11_told_102 ?_
            refine a_goto 161 dX11_told_103 (by decide) ?_
            replace hF := Option.some.inj hF
            subst hF
            exact a_iret rfl (Nat.zero_le _) (Nat.zero_le _) dX11_told_161 ⟨rfl, rfl⟩
        · replace hF := (if_pos c4).symm.trans hF
          refine a_aload_n dX11_told_83 0 rfl rfl ?_
          refine a_getR hZ.1 (hZ.2 60 0 (by decide) (by decide) Nat.one_pos) fl_X11_48 rfl 0 rfl dX11_told_84 ?_
          refine a_iload_n dX11_told_87 1 rfl rfl ?_
          obtain ⟨b14, hF⟩ := gd_some hF
          refine a_iald hZ.1 (s19 70 0 a1.toNatClampNeg) (hZ.2 70 0 (by decide) (by decide) Nat.one_pos) rfl rfl (inb_vp b14) rfl dX11_told_88 ?_
          refine a_goto 161 dX11_told_89 (by decide) ?_
          replace hF := Option.some.inj hF
          subst hF
          exact a_iret rfl (Nat.zero_le _) (Nat.zero_le _) dX11_told_161 ⟨rfl, rfl⟩
      · replace hF := (if_pos c3).symm.trans hF
        refine a_iconst (v := (0 : Int32)) dX11_told_34 (by decide) ?_
        refine a_istore_n [(3, .int (0 : Int32)), (0, .ref (za Z 60 0)), (1, .int a1), (2, .int a2)] dX11_told_35 rfl (by decide) rfl ?_
        refine a_iconst (v := (0 : Int32)) dX11_told_36 (by decide) ?_
        refine a_istore [(4, .int (0 : Int32)), (3, .int (0 : Int32)), (0, .ref (za Z 60 0)), (1, .int a1), (2, .int a2)] dX11_told_37 (by decide) rfl ?_
        refine a_loc [(0, .ref (za Z 60 0)), (1, .int a1), (3, .int (0 : Int32)), (4, .int (0 : Int32))] [2, 3, 1, 0] rfl ?_
        exact w_X11_told_39 (l := l) hZ   fu (0 : Int32) (0 : Int32)  _ hF
    · replace hF := (if_pos c2).symm.trans hF
      refine a_ldc (v := (-1000001)) kw_1136 dX11_told_25 ?_
      replace hF := Option.some.inj hF
      subst hF
      exact a_iret rfl (Nat.zero_le _) (Nat.zero_le _) dX11_told_27 ⟨rfl, rfl⟩
theorem m_X11_told {Z : ZE} {l : Launch} (hZ : OkM Z) {a1 : Int32} {a2 : Int32}  {s : St} {R : Int32 × St} (hF : F_X11_told (zg Z) a1 a2 s = some R) : Sp Z l yX11_told iX11_told [.ref (za Z 60 0), .int a1, .int a2] s (rI R) :=
  Sp.of (by decide) rfl (Nat.le_of_ble_eq_true rfl) (w_X11_told hZ  s hF)
-- X11_trace
def F_X11_trace (g : Nat × Nat) (a1 : Int32)   (s : St) : Option (Int32 × St) := (bd (F_X11_in g a1.toInt64 (0 : Int64) (((s 60 0 56) - (1 : Int32)).toInt64) (up s 60 0 0 (0 : Int32))) (fun r15 s15 => (if r15 = 0 then (some ((-1000000), s15)) else (gd (inb a1 16) (some ((s15 94 0 a1.toNatClampNeg), s15))))))
set_option maxRecDepth 100000 in
set_option maxHeartbeats 4000000 in
theorem w_X11_trace {Z : ZE} {l : Launch} (hZ : OkM Z) {a1 : Int32}  {R : Int32 × St}    (s : St) (hF : F_X11_trace (zg Z) a1  s = some R) : AW Z l iX11_trace (Pq (rI R)) 0 0 0 [(0, .ref (za Z 60 0)), (1, .int a1)] [] s := by
  unfold F_X11_trace at hF
  refine a_aload_n dX11_trace_0 0 rfl rfl ?_
  refine a_iconst (v := (0 : Int32)) dX11_trace_1 (by decide) ?_
  refine a_put hZ.1 (hZ.2 60 0 (by decide) (by decide) Nat.one_pos) fl_X11_1 rfl rfl rfl dX11_trace_2 ?_
  refine a_iload_n dX11_trace_5 1 rfl rfl ?_
  refine a_i2l dX11_trace_6 ?_
  refine a_lconst (v := (0 : Int64)) dX11_trace_7 (by decide) ?_
  refine a_aload_n dX11_trace_8 0 rfl rfl ?_
  refine a_getI hZ.1 (s 60 0 56) (hZ.2 60 0 (by decide) (by decide) Nat.one_pos) fl_X11_341 rfl (by simp [up]) dX11_trace_9 ?_
  refine a_iconst (v := (1 : Int32)) dX11_trace_12 (by decide) ?_
  refine a_isub dX11_trace_13 ?_
  refine a_i2l dX11_trace_14 ?_
  obtain ⟨r15, s15, e15, hF⟩ := bd_some hF
  refine a_invS hZ.1 (As := [.long a1.toInt64, .long (0 : Int64), .long ((s 60 0 56) - (1 : Int32)).toInt64]) (rest := []) lk_X11_126 ⟨⟨by decide, by decide⟩, by decide, by decide⟩ rfl (Nat.le_of_ble_eq_true rfl) dX11_trace_15 (m_X11_in hZ  e15) ?_
  show AW Z l iX11_trace (Pq (rI R)) 0 0 18 [(0, .ref (za Z 60 0)), (1, .int a1)] [.int r15] s15
  refine a_if_eq 30 dX11_trace_18 (by decide) (fun c1 => ?_) (fun c1 => ?_)
  · replace hF := (if_pos c1).symm.trans hF
    refine a_ldc (v := (-1000000)) kw_951 dX11_trace_30 ?_
    replace hF := Option.some.inj hF
    subst hF
    exact a_iret rfl (Nat.zero_le _) (Nat.zero_le _) dX11_trace_32 ⟨rfl, rfl⟩
  · replace hF := (if_neg c1).symm.trans hF
    refine a_aload_n dX11_trace_21 0 rfl rfl ?_
    refine a_getR hZ.1 (hZ.2 60 0 (by decide) (by decide) Nat.one_pos) fl_X11_121 rfl 0 rfl dX11_trace_22 ?_
    refine a_iload_n dX11_trace_25 1 rfl rfl ?_
    obtain ⟨b2, hF⟩ := gd_some hF
    refine a_iald hZ.1 (s15 94 0 a1.toNatClampNeg) (hZ.2 94 0 (by decide) (by decide) Nat.one_pos) rfl rfl (inb_vp b2) rfl dX11_trace_26 ?_
    refine a_goto 32 dX11_trace_27 (by decide) ?_
    replace hF := Option.some.inj hF
    subst hF
    exact a_iret rfl (Nat.zero_le _) (Nat.zero_le _) dX11_trace_32 ⟨rfl, rfl⟩
theorem m_X11_trace {Z : ZE} {l : Launch} (hZ : OkM Z) {a1 : Int32}  {s : St} {R : Int32 × St} (hF : F_X11_trace (zg Z) a1 s = some R) : Sp Z l yX11_trace iX11_trace [.ref (za Z 60 0), .int a1] s (rI R) :=
  Sp.of (by decide) rfl (Nat.le_of_ble_eq_true rfl) (w_X11_trace hZ  s hF)
-- X11_works
def F_X11_works_285 (g : Nat × Nat) (a1 : Int32) (a2 : Int32) (a3 : Int32) (a4 : Int32) (a5 : Int32)  (v8 : Int32) (v9 : Int32) (v10 : Int32) (s : St) : Option (Int32 × St) := (if a5 = 0 then (some (v8, s)) else (if a5 = (1 : Int32) then (some (v9, s)) else (some (v10, s))))
set_option maxRecDepth 100000 in
set_option maxHeartbeats 4000000 in
theorem w_X11_works_285 {Z : ZE} {l : Launch} (hZ : OkM Z) {a1 : Int32} {a2 : Int32} {a3 : Int32} {a4 : Int32} {a5 : Int32}  {R : Int32 × St}  (v8 : Int32) (v9 : Int32) (v10 : Int32)  (s : St) (hF : F_X11_works_285 (zg Z) a1 a2 a3 a4 a5 v8 v9 v10 s = some R) : AW Z l iX11_works (Pq (rI R)) 0 0 285 [(5, .int a5), (8, .int v8), (9, .int v9), (10, .int v10)] [] s := by
  unfold F_X11_works_285 at hF
  refine a_iload dX11_works_285 0 rfl ?_
  refine a_if_ne 295 dX11_works_287 (by decide) (fun c1 => ?_) (fun c1 => ?_)
  · replace hF := (if_neg c1).symm.trans hF
    refine a_iload dX11_works_295 0 rfl ?_
    refine a_iconst (v := (1 : Int32)) dX11_works_297 (by decide) ?_
    refine a_icmp_ne 306 dX11_works_298 (by decide) (fun c2 => ?_) (fun c2 => ?_)
    · replace hF := (if_neg c2).symm.trans hF
      refine a_iload dX11_works_306 3 rfl ?_
      replace hF := Option.some.inj hF
      subst hF
      exact a_iret rfl (Nat.zero_le _) (Nat.zero_le _) dX11_works_308 ⟨rfl, rfl⟩
    · replace hF := (if_pos c2).symm.trans hF
      refine a_iload dX11_works_301 2 rfl ?_
      refine a_goto 308 dX11_works_303 (by decide) ?_
      replace hF := Option.some.inj hF
      subst hF
      exact a_iret rfl (Nat.zero_le _) (Nat.zero_le _) dX11_works_308 ⟨rfl, rfl⟩
  · replace hF := (if_pos c1).symm.trans hF
    refine a_iload dX11_works_290 1 rfl ?_
    refine a_goto 308 dX11_works_292 (by decide) ?_
    replace hF := Option.some.inj hF
    subst hF
    exact a_iret rfl (Nat.zero_le _) (Nat.zero_le _) dX11_works_308 ⟨rfl, rfl⟩
def F_X11_works_279 (g : Nat × Nat) (a1 : Int32) (a2 : Int32) (a3 : Int32) (a4 : Int32) (a5 : Int32) (h163_ : Int32 → Int32 → Int32 → Int32 → Int32 → St → Option (Int32 × St)) (h285_ : Int32 → Int32 → Int32 → St → Option (Int32 × St)) (v7 : Int32) (v8 : Int32) (v9 : Int32) (v10 : Int32) (v11 : Int32) (s : St) : Option (Int32 × St) := (h163_ v7 v8 v9 v10 (v11 + 1) s)
set_option maxRecDepth 100000 in
set_option maxHeartbeats 4000000 in
theorem w_X11_works_279 {Z : ZE} {l : Launch} (hZ : OkM Z) {a1 : Int32} {a2 : Int32} {a3 : Int32} {a4 : Int32} {a5 : Int32}  {R : Int32 × St} (h163_ : Int32 → Int32 → Int32 → Int32 → Int32 → St → Option (Int32 × St)) (w163_ : ∀ (v7 : Int32) (v8 : Int32) (v9 : Int32) (v10 : Int32) (v11 : Int32)  (s : St), h163_ v7 v8 v9 v10 v11 s = some R → AW Z l iX11_works (Pq (rI R)) 0 0 163 [(0, .ref (za Z 60 0)), (3, .int a3), (4, .int a4), (5, .int a5), (7, .int v7), (8, .int v8), (9, .int v9), (10, .int v10), (11, .int v11)] [] s) (h285_ : Int32 → Int32 → Int32 → St → Option (Int32 × St)) (w285_ : ∀ (v8 : Int32) (v9 : Int32) (v10 : Int32)  (s : St), h285_ v8 v9 v10 s = some R → AW Z l iX11_works (Pq (rI R)) 0 0 285 [(5, .int a5), (8, .int v8), (9, .int v9), (10, .int v10)] [] s) (v7 : Int32) (v8 : Int32) (v9 : Int32) (v10 : Int32) (v11 : Int32)  (s : St) (hF : F_X11_works_279 (zg Z) a1 a2 a3 a4 a5 h163_ h285_ v7 v8 v9 v10 v11 s = some R) : AW Z l iX11_works (Pq (rI R)) 0 0 279 [(0, .ref (za Z 60 0)), (3, .int a3), (4, .int a4), (5, .int a5), (7, .int v7), (8, .int v8), (9, .int v9), (10, .int v10), (11, .int v11)] [] s := by
  unfold F_X11_works_279 at hF
  refine a_iinc [(11, .int (v11 + 1)), (0, .ref (za Z 60 0)), (3, .int a3), (4, .int a4), (5, .int a5), (7, .int v7), (8, .int v8), (9, .int v9), (10, .int v10)] dX11_works_279 8 rfl rfl (by decide) rfl ?_
  refine a_goto 163 dX11_works_282 (by decide) ?_
  refine a_loc [(0, .ref (za Z 60 0)), (3, .int a3), (4, .int a4), (5, .int a5), (7, .int v7), (8, .int v8), (9, .int v9), (10, .int v10), (11, .int (v11 + 1))] [1, 2, 3, 4, 5, 6, 7, 8, 0] rfl ?_
  exact w163_ v7 v8 v9 v10 (v11 + 1)  _ hF
def F_X11_works_267 (g : Nat × Nat) (a1 : Int32) (a2 : Int32) (a3 : Int32) (a4 : Int32) (a5 : Int32) (h163_ : Int32 → Int32 → Int32 → Int32 → Int32 → St → Option (Int32 × St)) (h285_ : Int32 → Int32 → Int32 → St → Option (Int32 × St)) (v7 : Int32) (v11 : Int32) (v12 : Int32) (v13 : Int32) (s : St) : Option (Int32 × St) := (F_X11_works_279 g a1 a2 a3 a4 a5 h163_ h285_ v7 v11 v12 v13 v11 s)
set_option maxRecDepth 100000 in
set_option maxHeartbeats 4000000 in
theorem w_X11_works_267 {Z : ZE} {l : Launch} (hZ : OkM Z) {a1 : Int32} {a2 : Int32} {a3 : Int32} {a4 : Int32} {a5 : Int32}  {R : Int32 × St} (h163_ : Int32 → Int32 → Int32 → Int32 → Int32 → St → Option (Int32 × St)) (w163_ : ∀ (v7 : Int32) (v8 : Int32) (v9 : Int32) (v10 : Int32) (v11 : Int32)  (s : St), h163_ v7 v8 v9 v10 v11 s = some R → AW Z l iX11_works (Pq (rI R)) 0 0 163 [(0, .ref (za Z 60 0)), (3, .int a3), (4, .int a4), (5, .int a5), (7, .int v7), (8, .int v8), (9, .int v9), (10, .int v10), (11, .int v11)] [] s) (h285_ : Int32 → Int32 → Int32 → St → Option (Int32 × St)) (w285_ : ∀ (v8 : Int32) (v9 : Int32) (v10 : Int32)  (s : St), h285_ v8 v9 v10 s = some R → AW Z l iX11_works (Pq (rI R)) 0 0 285 [(5, .int a5), (8, .int v8), (9, .int v9), (10, .int v10)] [] s) (v7 : Int32) (v11 : Int32) (v12 : Int32) (v13 : Int32)  (s : St) (hF : F_X11_works_267 (zg Z) a1 a2 a3 a4 a5 h163_ h285_ v7 v11 v12 v13 s = some R) : AW Z l iX11_works (Pq (rI R)) 0 0 267 [(0, .ref (za Z 60 0)), (3, .int a3), (4, .int a4), (5, .int a5), (7, .int v7), (11, .int v11), (12, .int v12), (13, .int v13)] [] s := by
  unfold F_X11_works_267 at hF
  refine a_iload dX11_works_267 5 rfl ?_
  refine a_istore [(8, .int v11), (0, .ref (za Z 60 0)), (3, .int a3), (4, .int a4), (5, .int a5), (7, .int v7), (11, .int v11), (12, .int v12), (13, .int v13)] dX11_works_269 (by decide) rfl ?_
  refine a_iload dX11_works_271 7 rfl ?_
  refine a_istore [(9, .int v12), (8, .int v11), (0, .ref (za Z 60 0)), (3, .int a3), (4, .int a4), (5, .int a5), (7, .int v7), (11, .int v11), (12, .int v12), (13, .int v13)] dX11_works_273 (by decide) rfl ?_
  refine a_iload dX11_works_275 9 rfl ?_
  refine a_istore [(10, .int v13), (9, .int v12), (8, .int v11), (0, .ref (za Z 60 0)), (3, .int a3), (4, .int a4), (5, .int a5), (7, .int v7), (11, .int v11), (12, .int v12), (13, .int v13)] dX11_works_277 (by decide) rfl ?_
  refine a_loc [(0, .ref (za Z 60 0)), (3, .int a3), (4, .int a4), (5, .int a5), (7, .int v7), (8, .int v11), (9, .int v12), (10, .int v13), (11, .int v11)] [3, 4, 5, 6, 7, 2, 1, 0, 8] rfl ?_
  exact w_X11_works_279 (l := l) hZ  h163_ w163_ h285_ w285_ v7 v11 v12 v13 v11  _ hF
def F_X11_works_239 (g : Nat × Nat) (a1 : Int32) (a2 : Int32) (a3 : Int32) (a4 : Int32) (a5 : Int32) (h163_ : Int32 → Int32 → Int32 → Int32 → Int32 → St → Option (Int32 × St)) (h285_ : Int32 → Int32 → Int32 → St → Option (Int32 × St)) (v7 : Int32) (v8 : Int32) (v9 : Int32) (v10 : Int32) (v11 : Int32) (v12 : Int32) (v13 : Int32) (s : St) : Option (Int32 × St) := (if a4 < v12 then (F_X11_works_279 g a1 a2 a3 a4 a5 h163_ h285_ v7 v8 v9 v10 v11 s) else (if v10 < v13 then (F_X11_works_267 g a1 a2 a3 a4 a5 h163_ h285_ v7 v11 v12 v13 s) else (if v13 = v10 then (if v9 ≤ v12 then (F_X11_works_279 g a1 a2 a3 a4 a5 h163_ h285_ v7 v8 v9 v10 v11 s) else (F_X11_works_267 g a1 a2 a3 a4 a5 h163_ h285_ v7 v11 v12 v13 s)) else (F_X11_works_279 g a1 a2 a3 a4 a5 h163_ h285_ v7 v8 v9 v10 v11 s))))
set_option maxRecDepth 100000 in
set_option maxHeartbeats 4000000 in
theorem w_X11_works_239 {Z : ZE} {l : Launch} (hZ : OkM Z) {a1 : Int32} {a2 : Int32} {a3 : Int32} {a4 : Int32} {a5 : Int32}  {R : Int32 × St} (h163_ : Int32 → Int32 → Int32 → Int32 → Int32 → St → Option (Int32 × St)) (w163_ : ∀ (v7 : Int32) (v8 : Int32) (v9 : Int32) (v10 : Int32) (v11 : Int32)  (s : St), h163_ v7 v8 v9 v10 v11 s = some R → AW Z l iX11_works (Pq (rI R)) 0 0 163 [(0, .ref (za Z 60 0)), (3, .int a3), (4, .int a4), (5, .int a5), (7, .int v7), (8, .int v8), (9, .int v9), (10, .int v10), (11, .int v11)] [] s) (h285_ : Int32 → Int32 → Int32 → St → Option (Int32 × St)) (w285_ : ∀ (v8 : Int32) (v9 : Int32) (v10 : Int32)  (s : St), h285_ v8 v9 v10 s = some R → AW Z l iX11_works (Pq (rI R)) 0 0 285 [(5, .int a5), (8, .int v8), (9, .int v9), (10, .int v10)] [] s) (v7 : Int32) (v8 : Int32) (v9 : Int32) (v10 : Int32) (v11 : Int32) (v12 : Int32) (v13 : Int32)  (s : St) (hF : F_X11_works_239 (zg Z) a1 a2 a3 a4 a5 h163_ h285_ v7 v8 v9 v10 v11 v12 v13 s = some R) : AW Z l iX11_works (Pq (rI R)) 0 0 239 [(0, .ref (za Z 60 0)), (3, .int a3), (4, .int a4), (5, .int a5), (7, .int v7), (8, .int v8), (9, .int v9), (10, .int v10), (11, .int v11), (12, .int v12), (13, .int v13)] [] s := by
  unfold F_X11_works_239 at hF
  refine a_iload dX11_works_239 9 rfl ?_
  refine a_iload dX11_works_241 2 rfl ?_
  refine a_icmp_gt 279 dX11_works_243 (by decide) (fun c1 => ?_) (fun c1 => ?_)
  · replace hF := (if_pos c1).symm.trans hF
    refine a_loc [(0, .ref (za Z 60 0)), (3, .int a3), (4, .int a4), (5, .int a5), (7, .int v7), (8, .int v8), (9, .int v9), (10, .int v10), (11, .int v11)] [0, 1, 2, 3, 4, 5, 6, 7, 8] rfl ?_
    exact w_X11_works_279 (l := l) hZ  h163_ w163_ h285_ w285_ v7 v8 v9 v10 v11  _ hF
  · replace hF := (if_neg c1).symm.trans hF
    refine a_iload dX11_works_246 10 rfl ?_
    refine a_iload dX11_works_248 7 rfl ?_
    refine a_icmp_gt 267 dX11_works_250 (by decide) (fun c2 => ?_) (fun c2 => ?_)
    · replace hF := (if_pos c2).symm.trans hF
      refine a_loc [(0, .ref (za Z 60 0)), (3, .int a3), (4, .int a4), (5, .int a5), (7, .int v7), (11, .int v11), (12, .int v12), (13, .int v13)] [0, 1, 2, 3, 4, 8, 9, 10] rfl ?_
      exact w_X11_works_267 (l := l) hZ  h163_ w163_ h285_ w285_ v7 v11 v12 v13  _ hF
    · replace hF := (if_neg c2).symm.trans hF
      refine a_iload dX11_works_253 10 rfl ?_
      refine a_iload dX11_works_255 7 rfl ?_
      refine a_icmp_ne 279 dX11_works_257 (by decide) (fun c3 => ?_) (fun c3 => ?_)
      · replace hF := (if_neg c3).symm.trans hF
        refine a_loc [(0, .ref (za Z 60 0)), (3, .int a3), (4, .int a4), (5, .int a5), (7, .int v7), (8, .int v8), (9, .int v9), (10, .int v10), (11, .int v11)] [0, 1, 2, 3, 4, 5, 6, 7, 8] rfl ?_
        exact w_X11_works_279 (l := l) hZ  h163_ w163_ h285_ w285_ v7 v8 v9 v10 v11  _ hF
      · replace hF := (if_pos c3).symm.trans hF
        refine a_iload dX11_works_260 9 rfl ?_
        refine a_iload dX11_works_262 6 rfl ?_
        refine a_icmp_ge 279 dX11_works_264 (by decide) (fun c4 => ?_) (fun c4 => ?_)
        · replace hF := (if_pos c4).symm.trans hF
          refine a_loc [(0, .ref (za Z 60 0)), (3, .int a3), (4, .int a4), (5, .int a5), (7, .int v7), (8, .int v8), (9, .int v9), (10, .int v10), (11, .int v11)] [0, 1, 2, 3, 4, 5, 6, 7, 8] rfl ?_
          exact w_X11_works_279 (l := l) hZ  h163_ w163_ h285_ w285_ v7 v8 v9 v10 v11  _ hF
        · replace hF := (if_neg c4).symm.trans hF
          refine a_loc [(0, .ref (za Z 60 0)), (3, .int a3), (4, .int a4), (5, .int a5), (7, .int v7), (11, .int v11), (12, .int v12), (13, .int v13)] [0, 1, 2, 3, 4, 8, 9, 10] rfl ?_
          exact w_X11_works_267 (l := l) hZ  h163_ w163_ h285_ w285_ v7 v11 v12 v13  _ hF
def F_X11_works_233 (g : Nat × Nat) (a1 : Int32) (a2 : Int32) (a3 : Int32) (a4 : Int32) (a5 : Int32) (h180_ : Int32 → Int32 → Int32 → Int32 → Int32 → Int32 → Int32 → Int32 → St → Option (Int32 × St)) (h239_ : Int32 → Int32 → Int32 → Int32 → Int32 → Int32 → Int32 → St → Option (Int32 × St)) (v7 : Int32) (v8 : Int32) (v9 : Int32) (v10 : Int32) (v11 : Int32) (v12 : Int32) (v13 : Int32) (v14 : Int32) (s : St) : Option (Int32 × St) := (h180_ v7 v8 v9 v10 v11 v12 v13 (v14 + 1) s)
set_option maxRecDepth 100000 in
set_option maxHeartbeats 4000000 in
theorem w_X11_works_233 {Z : ZE} {l : Launch} (hZ : OkM Z) {a1 : Int32} {a2 : Int32} {a3 : Int32} {a4 : Int32} {a5 : Int32}  {R : Int32 × St} (h180_ : Int32 → Int32 → Int32 → Int32 → Int32 → Int32 → Int32 → Int32 → St → Option (Int32 × St)) (w180_ : ∀ (v7 : Int32) (v8 : Int32) (v9 : Int32) (v10 : Int32) (v11 : Int32) (v12 : Int32) (v13 : Int32) (v14 : Int32)  (s : St), h180_ v7 v8 v9 v10 v11 v12 v13 v14 s = some R → AW Z l iX11_works (Pq (rI R)) 0 0 180 [(0, .ref (za Z 60 0)), (3, .int a3), (4, .int a4), (5, .int a5), (7, .int v7), (8, .int v8), (9, .int v9), (10, .int v10), (11, .int v11), (12, .int v12), (13, .int v13), (14, .int v14)] [] s) (h239_ : Int32 → Int32 → Int32 → Int32 → Int32 → Int32 → Int32 → St → Option (Int32 × St)) (w239_ : ∀ (v7 : Int32) (v8 : Int32) (v9 : Int32) (v10 : Int32) (v11 : Int32) (v12 : Int32) (v13 : Int32)  (s : St), h239_ v7 v8 v9 v10 v11 v12 v13 s = some R → AW Z l iX11_works (Pq (rI R)) 0 0 239 [(0, .ref (za Z 60 0)), (3, .int a3), (4, .int a4), (5, .int a5), (7, .int v7), (8, .int v8), (9, .int v9), (10, .int v10), (11, .int v11), (12, .int v12), (13, .int v13)] [] s) (v7 : Int32) (v8 : Int32) (v9 : Int32) (v10 : Int32) (v11 : Int32) (v12 : Int32) (v13 : Int32) (v14 : Int32)  (s : St) (hF : F_X11_works_233 (zg Z) a1 a2 a3 a4 a5 h180_ h239_ v7 v8 v9 v10 v11 v12 v13 v14 s = some R) : AW Z l iX11_works (Pq (rI R)) 0 0 233 [(0, .ref (za Z 60 0)), (3, .int a3), (4, .int a4), (5, .int a5), (7, .int v7), (8, .int v8), (9, .int v9), (10, .int v10), (11, .int v11), (12, .int v12), (13, .int v13), (14, .int v14)] [] s := by
  unfold F_X11_works_233 at hF
  refine a_iinc [(14, .int (v14 + 1)), (0, .ref (za Z 60 0)), (3, .int a3), (4, .int a4), (5, .int a5), (7, .int v7), (8, .int v8), (9, .int v9), (10, .int v10), (11, .int v11), (12, .int v12), (13, .int v13)] dX11_works_233 11 rfl rfl (by decide) rfl ?_
  refine a_goto 180 dX11_works_236 (by decide) ?_
  refine a_loc [(0, .ref (za Z 60 0)), (3, .int a3), (4, .int a4), (5, .int a5), (7, .int v7), (8, .int v8), (9, .int v9), (10, .int v10), (11, .int v11), (12, .int v12), (13, .int v13), (14, .int (v14 + 1))] [1, 2, 3, 4, 5, 6, 7, 8, 9, 10, 11, 0] rfl ?_
  exact w180_ v7 v8 v9 v10 v11 v12 v13 (v14 + 1)  _ hF
def F_X11_works_180 (g : Nat × Nat) (a1 : Int32) (a2 : Int32) (a3 : Int32) (a4 : Int32) (a5 : Int32) (h239_ : Int32 → Int32 → Int32 → Int32 → Int32 → Int32 → Int32 → St → Option (Int32 × St)) : Nat → Int32 → Int32 → Int32 → Int32 → Int32 → Int32 → Int32 → Int32 → St → Option (Int32 × St)
  | 0, _, _, _, _, _, _, _, _, _ => none
  | n_ + 1, v7, v8, v9, v10, v11, v12, v13, v14, s => (if a3 ≤ v14 then (h239_ v7 v8 v9 v10 v11 v12 v13 s) else (if ((v11 >>> (v14 &&& 31)) &&& (1 : Int32)) = (1 : Int32) then (gd (inb (v7 + ((2 : Int32) * v14)) 640) (gd (inb ((v7 + ((2 : Int32) * v14)) + (1 : Int32)) 640) (F_X11_works_233 g a1 a2 a3 a4 a5 (F_X11_works_180 g a1 a2 a3 a4 a5 h239_ n_) h239_ v7 v8 v9 v10 v11 (v12 + (s 63 0 (v7 + ((2 : Int32) * v14)).toNatClampNeg)) (v13 + (s 63 0 ((v7 + ((2 : Int32) * v14)) + (1 : Int32)).toNatClampNeg)) v14 s))) else (F_X11_works_233 g a1 a2 a3 a4 a5 (F_X11_works_180 g a1 a2 a3 a4 a5 h239_ n_) h239_ v7 v8 v9 v10 v11 v12 v13 v14 s)))
set_option maxRecDepth 100000 in
set_option maxHeartbeats 4000000 in
theorem w_X11_works_180 {Z : ZE} {l : Launch} (hZ : OkM Z) {a1 : Int32} {a2 : Int32} {a3 : Int32} {a4 : Int32} {a5 : Int32}  {R : Int32 × St} (h239_ : Int32 → Int32 → Int32 → Int32 → Int32 → Int32 → Int32 → St → Option (Int32 × St)) (w239_ : ∀ (v7 : Int32) (v8 : Int32) (v9 : Int32) (v10 : Int32) (v11 : Int32) (v12 : Int32) (v13 : Int32)  (s : St), h239_ v7 v8 v9 v10 v11 v12 v13 s = some R → AW Z l iX11_works (Pq (rI R)) 0 0 239 [(0, .ref (za Z 60 0)), (3, .int a3), (4, .int a4), (5, .int a5), (7, .int v7), (8, .int v8), (9, .int v9), (10, .int v10), (11, .int v11), (12, .int v12), (13, .int v13)] [] s) : ∀ (n_ : Nat) (v7 : Int32) (v8 : Int32) (v9 : Int32) (v10 : Int32) (v11 : Int32) (v12 : Int32) (v13 : Int32) (v14 : Int32)  (s : St), F_X11_works_180 (zg Z) a1 a2 a3 a4 a5 h239_ n_ v7 v8 v9 v10 v11 v12 v13 v14 s = some R → AW Z l iX11_works (Pq (rI R)) 0 0 180 [(0, .ref (za Z 60 0)), (3, .int a3), (4, .int a4), (5, .int a5), (7, .int v7), (8, .int v8), (9, .int v9), (10, .int v10), (11, .int v11), (12, .int v12), (13, .int v13), (14, .int v14)] [] s := by
  intro n_
  induction n_ with
  | zero =>
    intro v7 v8 v9 v10 v11 v12 v13 v14 s hF
    exact absurd hF (by rw [F_X11_works_180]; exact fun q => by cases q)
  | succ n_ w180_ =>
    intro v7 v8 v9 v10 v11 v12 v13 v14 s hF
    rw [F_X11_works_180] at hF
    refine a_iload dX11_works_180 11 rfl ?_
    refine a_iload_n dX11_works_182 1 rfl rfl ?_
    refine a_icmp_ge 239 dX11_works_183 (by decide) (fun c1 => ?_) (fun c1 => ?_)
    · replace hF := (if_pos c1).symm.trans hF
      refine a_loc [(0, .ref (za Z 60 0)), (3, .int a3), (4, .int a4), (5, .int a5), (7, .int v7), (8, .int v8), (9, .int v9), (10, .int v10), (11, .int v11), (12, .int v12), (13, .int v13)] [0, 1, 2, 3, 4, 5, 6, 7, 8, 9, 10] rfl ?_
      exact w239_ v7 v8 v9 v10 v11 v12 v13  _ hF
    · replace hF := (if_neg c1).symm.trans hF
      refine a_iload dX11_works_186 8 rfl ?_
      refine a_iload dX11_works_188 11 rfl ?_
      refine a_ishr dX11_works_190 ?_
      refine a_iconst (v := (1 : Int32)) dX11_works_191 (by decide) ?_
      refine a_iand dX11_works_192 ?_
      refine a_iconst (v := (1 : Int32)) dX11_works_193 (by decide) ?_
      refine a_icmp_ne 233 dX11_works_194 (by decide) (fun c2 => ?_) (fun c2 => ?_)
      · replace hF := (if_neg c2).symm.trans hF
        exact w_X11_works_233 (l := l) hZ  (F_X11_works_180 (zg Z) a1 a2 a3 a4 a5 h239_ n_) w180_ h239_ w239_ v7 v8 v9 v10 v11 v12 v13 v14  _ hF
      · replace hF := (if_pos c2).symm.trans hF
        refine a_iload dX11_works_197 9 rfl ?_
        refine a_aload_n dX11_works_199 0 rfl rfl ?_
        refine a_getR hZ.1 (hZ.2 60 0 (by decide) (by decide) Nat.one_pos) fl_X11_24 rfl 0 rfl dX11_works_200 ?_
        refine a_iload dX11_works_203 4 rfl ?_
        refine a_iconst (v := (2 : Int32)) dX11_works_205 (by decide) ?_
        refine a_iload dX11_works_206 11 rfl ?_
        refine a_imul dX11_works_208 ?_
        refine a_iadd dX11_works_209 ?_
        obtain ⟨b3, hF⟩ := gd_some hF
        refine a_iald hZ.1 (s 63 0 (v7 + ((2 : Int32) * v14)).toNatClampNeg) (hZ.2 63 0 (by decide) (by decide) Nat.one_pos) rfl rfl (inb_vp b3) rfl dX11_works_210 ?_
        refine a_iadd dX11_works_211 ?_
        refine a_istore [(12, .int (v12 + (s 63 0 (v7 + ((2 : Int32) * v14)).toNatClampNeg))), (0, .ref (za Z 60 0)), (3, .int a3), (4, .int a4), (5, .int a5), (7, .int v7), (8, .int v8), (9, .int v9), (10, .int v10), (11, .int v11), (13, .int v13), (14, .int v14)] dX11_works_212 (by decide) rfl ?_
        refine a_iload dX11_works_214 10 rfl ?_
        refine a_aload_n dX11_works_216 1 rfl rfl ?_
        refine a_getR hZ.1 (hZ.2 60 0 (by decide) (by decide) Nat.one_pos) fl_X11_24 rfl 0 rfl dX11_works_217 ?_
        refine a_iload dX11_works_220 5 rfl ?_
        refine a_iconst (v := (2 : Int32)) dX11_works_222 (by decide) ?_
        refine a_iload dX11_works_223 11 rfl ?_
        refine a_imul dX11_works_225 ?_
        refine a_iadd dX11_works_226 ?_
        refine a_iconst (v := (1 : Int32)) dX11_works_227 (by decide) ?_
        refine a_iadd dX11_works_228 ?_
        obtain ⟨b4, hF⟩ := gd_some hF
        refine a_iald hZ.1 (s 63 0 ((v7 + ((2 : Int32) * v14)) + (1 : Int32)).toNatClampNeg) (hZ.2 63 0 (by decide) (by decide) Nat.one_pos) rfl rfl (inb_vp b4) rfl dX11_works_229 ?_
        refine a_iadd dX11_works_230 ?_
        refine a_istore [(13, .int (v13 + (s 63 0 ((v7 + ((2 : Int32) * v14)) + (1 : Int32)).toNatClampNeg))), (12, .int (v12 + (s 63 0 (v7 + ((2 : Int32) * v14)).toNatClampNeg))), (0, .ref (za Z 60 0)), (3, .int a3), (4, .int a4), (5, .int a5), (7, .int v7), (8, .int v8), (9, .int v9), (10, .int v10), (11, .int v11), (14, .int v14)] dX11_works_231 (by decide) rfl ?_
        refine a_loc [(0, .ref (za Z 60 0)), (3, .int a3), (4, .int a4), (5, .int a5), (7, .int v7), (8, .int v8), (9, .int v9), (10, .int v10), (11, .int v11), (12, .int (v12 + (s 63 0 (v7 + ((2 : Int32) * v14)).toNatClampNeg))), (13, .int (v13 + (s 63 0 ((v7 + ((2 : Int32) * v14)) + (1 : Int32)).toNatClampNeg))), (14, .int v14)] [2, 3, 4, 5, 6, 7, 8, 9, 10, 1, 0, 11] rfl ?_
        exact w_X11_works_233 (l := l) hZ  (F_X11_works_180 (zg Z) a1 a2 a3 a4 a5 h239_ n_) w180_ h239_ w239_ v7 v8 v9 v10 v11 (v12 + (s 63 0 (v7 + ((2 : Int32) * v14)).toNatClampNeg)) (v13 + (s 63 0 ((v7 + ((2 : Int32) * v14)) + (1 : Int32)).toNatClampNeg)) v14  _ hF
def F_X11_works_163 (g : Nat × Nat) (a1 : Int32) (a2 : Int32) (a3 : Int32) (a4 : Int32) (a5 : Int32) (h285_ : Int32 → Int32 → Int32 → St → Option (Int32 × St)) : Nat → Int32 → Int32 → Int32 → Int32 → Int32 → St → Option (Int32 × St)
  | 0, _, _, _, _, _, _ => none
  | n_ + 1, v7, v8, v9, v10, v11, s => (if ((1 : Int32) <<< (a3 &&& 31)) ≤ v11 then (h285_ v8 v9 v10 s) else ((F_X11_works_180 g a1 a2 a3 a4 a5 (F_X11_works_239 g a1 a2 a3 a4 a5 (F_X11_works_163 g a1 a2 a3 a4 a5 h285_ n_) h285_) fu) v7 v8 v9 v10 v11 (0 : Int32) (0 : Int32) (0 : Int32) s))
set_option maxRecDepth 100000 in
set_option maxHeartbeats 4000000 in
theorem w_X11_works_163 {Z : ZE} {l : Launch} (hZ : OkM Z) {a1 : Int32} {a2 : Int32} {a3 : Int32} {a4 : Int32} {a5 : Int32}  {R : Int32 × St} (h285_ : Int32 → Int32 → Int32 → St → Option (Int32 × St)) (w285_ : ∀ (v8 : Int32) (v9 : Int32) (v10 : Int32)  (s : St), h285_ v8 v9 v10 s = some R → AW Z l iX11_works (Pq (rI R)) 0 0 285 [(5, .int a5), (8, .int v8), (9, .int v9), (10, .int v10)] [] s) : ∀ (n_ : Nat) (v7 : Int32) (v8 : Int32) (v9 : Int32) (v10 : Int32) (v11 : Int32)  (s : St), F_X11_works_163 (zg Z) a1 a2 a3 a4 a5 h285_ n_ v7 v8 v9 v10 v11 s = some R → AW Z l iX11_works (Pq (rI R)) 0 0 163 [(0, .ref (za Z 60 0)), (3, .int a3), (4, .int a4), (5, .int a5), (7, .int v7), (8, .int v8), (9, .int v9), (10, .int v10), (11, .int v11)] [] s := by
  intro n_
  induction n_ with
  | zero =>
    intro v7 v8 v9 v10 v11 s hF
    exact absurd hF (by rw [F_X11_works_163]; exact fun q => by cases q)
  | succ n_ w163_ =>
    intro v7 v8 v9 v10 v11 s hF
    rw [F_X11_works_163] at hF
    refine a_iload dX11_works_163 8 rfl ?_
    refine a_iconst (v := (1 : Int32)) dX11_works_165 (by decide) ?_
    refine a_iload_n dX11_works_166 1 rfl rfl ?_
    refine a_ishl dX11_works_167 ?_
    refine a_icmp_ge 285 dX11_works_168 (by decide) (fun c1 => ?_) (fun c1 => ?_)
    · replace hF := (if_pos c1).symm.trans hF
      refine a_loc [(5, .int a5), (8, .int v8), (9, .int v9), (10, .int v10)] [3, 5, 6, 7] rfl ?_
      exact w285_ v8 v9 v10  _ hF
    · replace hF := (if_neg c1).symm.trans hF
      refine a_iconst (v := (0 : Int32)) dX11_works_171 (by decide) ?_
      refine a_istore [(12, .int (0 : Int32)), (0, .ref (za Z 60 0)), (3, .int a3), (4, .int a4), (5, .int a5), (7, .int v7), (8, .int v8), (9, .int v9), (10, .int v10), (11, .int v11)] dX11_works_172 (by decide) rfl ?_
      refine a_iconst (v := (0 : Int32)) dX11_works_174 (by decide) ?_
      refine a_istore [(13, .int (0 : Int32)), (12, .int (0 : Int32)), (0, .ref (za Z 60 0)), (3, .int a3), (4, .int a4), (5, .int a5), (7, .int v7), (8, .int v8), (9, .int v9), (10, .int v10), (11, .int v11)] dX11_works_175 (by decide) rfl ?_
      refine a_iconst (v := (0 : Int32)) dX11_works_177 (by decide) ?_
      refine a_istore [(14, .int (0 : Int32)), (13, .int (0 : Int32)), (12, .int (0 : Int32)), (0, .ref (za Z 60 0)), (3, .int a3), (4, .int a4), (5, .int a5), (7, .int v7), (8, .int v8), (9, .int v9), (10, .int v10), (11, .int v11)] dX11_works_178 (by decide) rfl ?_
      refine a_loc [(0, .ref (za Z 60 0)), (3, .int a3), (4, .int a4), (5, .int a5), (7, .int v7), (8, .int v8), (9, .int v9), (10, .int v10), (11, .int v11), (12, .int (0 : Int32)), (13, .int (0 : Int32)), (14, .int (0 : Int32))] [3, 4, 5, 6, 7, 8, 9, 10, 11, 2, 1, 0] rfl ?_
      exact w_X11_works_180 (l := l) hZ  (F_X11_works_239 (zg Z) a1 a2 a3 a4 a5 (F_X11_works_163 (zg Z) a1 a2 a3 a4 a5 h285_ n_) h285_) (w_X11_works_239 (l := l) hZ  (F_X11_works_163 (zg Z) a1 a2 a3 a4 a5 h285_ n_) w163_ h285_ w285_) fu v7 v8 v9 v10 v11 (0 : Int32) (0 : Int32) (0 : Int32)  _ hF
def F_X11_works_146 (g : Nat × Nat) (a1 : Int32) (a2 : Int32) (a3 : Int32) (a4 : Int32) (a5 : Int32)  (v7 : Int32) (s : St) : Option (Int32 × St) := ((F_X11_works_163 g a1 a2 a3 a4 a5 (F_X11_works_285 g a1 a2 a3 a4 a5 ) fu) v7 (0 : Int32) (0 : Int32) (0 : Int32) (1 : Int32) (up s 60 0 1 (0 : Int32)))
set_option maxRecDepth 100000 in
set_option maxHeartbeats 4000000 in
theorem w_X11_works_146 {Z : ZE} {l : Launch} (hZ : OkM Z) {a1 : Int32} {a2 : Int32} {a3 : Int32} {a4 : Int32} {a5 : Int32}  {R : Int32 × St}  (v7 : Int32)  (s : St) (hF : F_X11_works_146 (zg Z) a1 a2 a3 a4 a5 v7 s = some R) : AW Z l iX11_works (Pq (rI R)) 0 0 146 [(0, .ref (za Z 60 0)), (3, .int a3), (4, .int a4), (5, .int a5), (7, .int v7)] [] s := by
  unfold F_X11_works_146 at hF
  refine a_aload_n dX11_works_146 0 rfl rfl ?_
  refine a_iconst (v := (0 : Int32)) dX11_works_147 (by decide) ?_
  refine a_put hZ.1 (hZ.2 60 0 (by decide) (by decide) Nat.one_pos) fl_X11_7 rfl rfl rfl dX11_works_148 ?_
  refine a_iconst (v := (0 : Int32)) dX11_works_151 (by decide) ?_
  refine a_istore [(8, .int (0 : Int32)), (0, .ref (za Z 60 0)), (3, .int a3), (4, .int a4), (5, .int a5), (7, .int v7)] dX11_works_152 (by decide) rfl ?_
  refine a_iconst (v := (0 : Int32)) dX11_works_154 (by decide) ?_
  refine a_istore [(9, .int (0 : Int32)), (8, .int (0 : Int32)), (0, .ref (za Z 60 0)), (3, .int a3), (4, .int a4), (5, .int a5), (7, .int v7)] dX11_works_155 (by decide) rfl ?_
  refine a_iconst (v := (0 : Int32)) dX11_works_157 (by decide) ?_
  refine a_istore [(10, .int (0 : Int32)), (9, .int (0 : Int32)), (8, .int (0 : Int32)), (0, .ref (za Z 60 0)), (3, .int a3), (4, .int a4), (5, .int a5), (7, .int v7)] dX11_works_158 (by decide) rfl ?_
  refine a_iconst (v := (1 : Int32)) dX11_works_160 (by decide) ?_
  refine a_istore [(11, .int (1 : Int32)), (10, .int (0 : Int32)), (9, .int (0 : Int32)), (8, .int (0 : Int32)), (0, .ref (za Z 60 0)), (3, .int a3), (4, .int a4), (5, .int a5), (7, .int v7)] dX11_works_161 (by decide) rfl ?_
  refine a_loc [(0, .ref (za Z 60 0)), (3, .int a3), (4, .int a4), (5, .int a5), (7, .int v7), (8, .int (0 : Int32)), (9, .int (0 : Int32)), (10, .int (0 : Int32)), (11, .int (1 : Int32))] [4, 5, 6, 7, 8, 3, 2, 1, 0] rfl ?_
  exact w_X11_works_163 (l := l) hZ  (F_X11_works_285 (zg Z) a1 a2 a3 a4 a5 ) (w_X11_works_285 (l := l) hZ  ) fu v7 (0 : Int32) (0 : Int32) (0 : Int32) (1 : Int32)  _ hF
def F_X11_works_83 (g : Nat × Nat) (a1 : Int32) (a2 : Int32) (a3 : Int32) (a4 : Int32) (a5 : Int32) (h146_ : Int32 → St → Option (Int32 × St)) : Nat → Int32 → Int32 → St → Option (Int32 × St)
  | 0, _, _, _ => none
  | n_ + 1, v7, v8, s => (if a3 ≤ v8 then (h146_ v7 s) else (gd (inb (v7 + ((2 : Int32) * v8)) 640) (bd (F_X11_in g ((s 63 0 (v7 + ((2 : Int32) * v8)).toNatClampNeg).toInt64) (1 : Int64) (100 : Int64) s) (fun r106 s106 => (if r106 = 0 then (some ((-1000001), s106)) else (gd (inb ((v7 + ((2 : Int32) * v8)) + (1 : Int32)) 640) (bd (F_X11_in g ((s106 63 0 ((v7 + ((2 : Int32) * v8)) + (1 : Int32)).toNatClampNeg).toInt64) (0 : Int64) (100 : Int64) s106) (fun r131 s131 => (if r131 = 0 then (some ((-1000001), s131)) else (F_X11_works_83 g a1 a2 a3 a4 a5 h146_ n_ v7 (v8 + 1) s131))))))))))
set_option maxRecDepth 100000 in
set_option maxHeartbeats 4000000 in
theorem w_X11_works_83 {Z : ZE} {l : Launch} (hZ : OkM Z) {a1 : Int32} {a2 : Int32} {a3 : Int32} {a4 : Int32} {a5 : Int32}  {R : Int32 × St} (h146_ : Int32 → St → Option (Int32 × St)) (w146_ : ∀ (v7 : Int32)  (s : St), h146_ v7 s = some R → AW Z l iX11_works (Pq (rI R)) 0 0 146 [(0, .ref (za Z 60 0)), (3, .int a3), (4, .int a4), (5, .int a5), (7, .int v7)] [] s) : ∀ (n_ : Nat) (v7 : Int32) (v8 : Int32)  (s : St), F_X11_works_83 (zg Z) a1 a2 a3 a4 a5 h146_ n_ v7 v8 s = some R → AW Z l iX11_works (Pq (rI R)) 0 0 83 [(0, .ref (za Z 60 0)), (3, .int a3), (4, .int a4), (5, .int a5), (7, .int v7), (8, .int v8)] [] s := by
  intro n_
  induction n_ with
  | zero =>
    intro v7 v8 s hF
    exact absurd hF (by rw [F_X11_works_83]; exact fun q => by cases q)
  | succ n_ w83_ =>
    intro v7 v8 s hF
    rw [F_X11_works_83] at hF
    refine a_iload dX11_works_83 5 rfl ?_
    refine a_iload_n dX11_works_85 1 rfl rfl ?_
    refine a_icmp_ge 146 dX11_works_86 (by decide) (fun c1 => ?_) (fun c1 => ?_)
    · replace hF := (if_pos c1).symm.trans hF
      refine a_loc [(0, .ref (za Z 60 0)), (3, .int a3), (4, .int a4), (5, .int a5), (7, .int v7)] [0, 1, 2, 3, 4] rfl ?_
      exact w146_ v7  _ hF
    · replace hF := (if_neg c1).symm.trans hF
      refine a_aload_n dX11_works_89 0 rfl rfl ?_
      refine a_getR hZ.1 (hZ.2 60 0 (by decide) (by decide) Nat.one_pos) fl_X11_24 rfl 0 rfl dX11_works_90 ?_
      refine a_iload dX11_works_93 4 rfl ?_
      refine a_iconst (v := (2 : Int32)) dX11_works_95 (by decide) ?_
      refine a_iload dX11_works_96 5 rfl ?_
      refine a_imul dX11_works_98 ?_
      refine a_iadd dX11_works_99 ?_
      obtain ⟨b2, hF⟩ := gd_some hF
      refine a_iald hZ.1 (s 63 0 (v7 + ((2 : Int32) * v8)).toNatClampNeg) (hZ.2 63 0 (by decide) (by decide) Nat.one_pos) rfl rfl (inb_vp b2) rfl dX11_works_100 ?_
      refine a_i2l dX11_works_101 ?_
      refine a_lconst (v := (1 : Int64)) dX11_works_102 (by decide) ?_
      refine a_ldc2 (v := (100 : Int64)) kw_1167 dX11_works_103 ?_
      obtain ⟨r106, s106, e106, hF⟩ := bd_some hF
      refine a_invS hZ.1 (As := [.long (s 63 0 (v7 + ((2 : Int32) * v8)).toNatClampNeg).toInt64, .long (1 : Int64), .long (100 : Int64)]) (rest := []) lk_X11_126 ⟨⟨by decide, by decide⟩, by decide, by decide⟩ rfl (Nat.le_of_ble_eq_true rfl) dX11_works_106 (m_X11_in hZ  e106) ?_
      show AW Z l iX11_works (Pq (rI R)) 0 0 109 [(0, .ref (za Z 60 0)), (3, .int a3), (4, .int a4), (5, .int a5), (7, .int v7), (8, .int v8)] [.int r106] s106
      refine a_if_eq 137 dX11_works_109 (by decide) (fun c3 => ?_) (fun c3 => ?_)
      · replace hF := (if_pos c3).symm.trans hF
        refine a_ldc (v := (-1000001)) kw_1136 dX11_works_137 ?_
        replace hF := Option.some.inj hF
        subst hF
        exact a_iret rfl (Nat.zero_le _) (Nat.zero_le _) dX11_works_139 ⟨rfl, rfl⟩
      · replace hF := (if_neg c3).symm.trans hF
        refine a_aload_n dX11_works_112 0 rfl rfl ?_
        refine a_getR hZ.1 (hZ.2 60 0 (by decide) (by decide) Nat.one_pos) fl_X11_24 rfl 0 rfl dX11_works_113 ?_
        refine a_iload dX11_works_116 4 rfl ?_
        refine a_iconst (v := (2 : Int32)) dX11_works_118 (by decide) ?_
        refine a_iload dX11_works_119 5 rfl ?_
        refine a_imul dX11_works_121 ?_
        refine a_iadd dX11_works_122 ?_
        refine a_iconst (v := (1 : Int32)) dX11_works_123 (by decide) ?_
        refine a_iadd dX11_works_124 ?_
        obtain ⟨b4, hF⟩ := gd_some hF
        refine a_iald hZ.1 (s106 63 0 ((v7 + ((2 : Int32) * v8)) + (1 : Int32)).toNatClampNeg) (hZ.2 63 0 (by decide) (by decide) Nat.one_pos) rfl rfl (inb_vp b4) rfl dX11_works_125 ?_
        refine a_i2l dX11_works_126 ?_
        refine a_lconst (v := (0 : Int64)) dX11_works_127 (by decide) ?_
        refine a_ldc2 (v := (100 : Int64)) kw_1167 dX11_works_128 ?_
        obtain ⟨r131, s131, e131, hF⟩ := bd_some hF
        refine a_invS hZ.1 (As := [.long (s106 63 0 ((v7 + ((2 : Int32) * v8)) + (1 : Int32)).toNatClampNeg).toInt64, .long (0 : Int64), .long (100 : Int64)]) (rest := []) lk_X11_126 ⟨⟨by decide, by decide⟩, by decide, by decide⟩ rfl (Nat.le_of_ble_eq_true rfl) dX11_works_131 (m_X11_in hZ  e131) ?_
        show AW Z l iX11_works (Pq (rI R)) 0 0 134 [(0, .ref (za Z 60 0)), (3, .int a3), (4, .int a4), (5, .int a5), (7, .int v7), (8, .int v8)] [.int r131] s131
        refine a_if_ne 140 dX11_works_134 (by decide) (fun c5 => ?_) (fun c5 => ?_)
        · replace hF := (if_neg c5).symm.trans hF
          refine a_iinc [(8, .int (v8 + 1)), (0, .ref (za Z 60 0)), (3, .int a3), (4, .int a4), (5, .int a5), (7, .int v7)] dX11_works_140 5 rfl rfl (by decide) rfl ?_
          refine a_goto 83 dX11_works_143 (by decide) ?_
          refine a_loc [(0, .ref (za Z 60 0)), (3, .int a3), (4, .int a4), (5, .int a5), (7, .int v7), (8, .int (v8 + 1))] [1, 2, 3, 4, 5, 0] rfl ?_
          exact w83_ v7 (v8 + 1)  _ hF
        · replace hF := (if_pos c5).symm.trans hF
          refine a_ldc (v := (-1000001)) kw_1136 dX11_works_137 ?_
          replace hF := Option.some.inj hF
          subst hF
          exact a_iret rfl (Nat.zero_le _) (Nat.zero_le _) dX11_works_139 ⟨rfl, rfl⟩
def F_X11_works (g : Nat × Nat) (a1 : Int32) (a2 : Int32) (a3 : Int32) (a4 : Int32) (a5 : Int32)   (s : St) : Option (Int32 × St) := (bd (F_X11_isSheet g a1 (up s 60 0 0 (0 : Int32))) (fun r6 s6 => (if r6 = 0 then (some ((-1000001), s6)) else (bd (F_X11_in g a3.toInt64 (1 : Int64) (10 : Int64) s6) (fun r18 s18 => (if r18 = 0 then (some ((-1000001), s18)) else (bd (F_X11_in g a4.toInt64 (0 : Int64) (500 : Int64) s18) (fun r31 s31 => (if r31 = 0 then (some ((-1000001), s31)) else (bd (F_X11_in g a5.toInt64 (0 : Int64) (2 : Int64) s31) (fun r44 s44 => (if r44 = 0 then (some ((-1000001), s44)) else (bd (F_X11_lookItems g a1 a2 ((2 : Int32) * a3) s44) (fun r59 s59 => (if 0 ≤ r59 then ((F_X11_works_83 g a1 a2 a3 a4 a5 (F_X11_works_146 g a1 a2 a3 a4 a5 ) fu) (((80 : Int32) * a1) + a2) (0 : Int32) s59) else (some (r59, s59)))))))))))))))))
set_option maxRecDepth 100000 in
set_option maxHeartbeats 4000000 in
theorem w_X11_works {Z : ZE} {l : Launch} (hZ : OkM Z) {a1 : Int32} {a2 : Int32} {a3 : Int32} {a4 : Int32} {a5 : Int32}  {R : Int32 × St}    (s : St) (hF : F_X11_works (zg Z) a1 a2 a3 a4 a5  s = some R) : AW Z l iX11_works (Pq (rI R)) 0 0 0 [(0, .ref (za Z 60 0)), (1, .int a1), (2, .int a2), (3, .int a3), (4, .int a4), (5, .int a5)] [] s := by
  unfold F_X11_works at hF
  refine a_aload_n dX11_works_0 0 rfl rfl ?_
  refine a_iconst (v := (0 : Int32)) dX11_works_1 (by decide) ?_
  refine a_put hZ.1 (hZ.2 60 0 (by decide) (by decide) Nat.one_pos) fl_X11_1 rfl rfl rfl dX11_works_2 ?_
  refine a_iload_n dX11_works_5 1 rfl rfl ?_
  obtain ⟨r6, s6, e6, hF⟩ := bd_some hF
  refine a_invS hZ.1 (As := [.int a1]) (rest := []) lk_X11_130 ⟨⟨by decide, by decide⟩, by decide, by decide⟩ rfl (Nat.le_of_ble_eq_true rfl) dX11_works_6 (m_X11_isSheet hZ  e6) ?_
  show AW Z l iX11_works (Pq (rI R)) 0 0 9 [(0, .ref (za Z 60 0)), (1, .int a1), (2, .int a2), (3, .int a3), (4, .int a4), (5, .int a5)] [.int r6] s6
  refine a_if_eq 50 dX11_works_9 (by decide) (fun c1 => ?_) (fun c1 => ?_)
  · replace hF := (if_pos c1).symm.trans hF
    refine a_ldc (v := (-1000001)) kw_1136 dX11_works_50 ?_
    replace hF := Option.some.inj hF
    subst hF
    exact a_iret rfl (Nat.zero_le _) (Nat.zero_le _) dX11_works_52 ⟨rfl, rfl⟩
  · replace hF := (if_neg c1).symm.trans hF
    refine a_iload_n dX11_works_12 3 rfl rfl ?_
    refine a_i2l dX11_works_13 ?_
    refine a_lconst (v := (1 : Int64)) dX11_works_14 (by decide) ?_
    refine a_ldc2 (v := (10 : Int64)) kw_1315 dX11_works_15 ?_
    obtain ⟨r18, s18, e18, hF⟩ := bd_some hF
    refine a_invS hZ.1 (As := [.long a3.toInt64, .long (1 : Int64), .long (10 : Int64)]) (rest := []) lk_X11_126 ⟨⟨by decide, by decide⟩, by decide, by decide⟩ rfl (Nat.le_of_ble_eq_true rfl) dX11_works_18 (m_X11_in hZ  e18) ?_
    show AW Z l iX11_works (Pq (rI R)) 0 0 21 [(0, .ref (za Z 60 0)), (1, .int a1), (2, .int a2), (3, .int a3), (4, .int a4), (5, .int a5)] [.int r18] s18
    refine a_if_eq 50 dX11_works_21 (by decide) (fun c2 => ?_) (fun c2 => ?_)
    · replace hF := (if_pos c2).symm.trans hF
      refine a_ldc (v := (-1000001)) kw_1136 dX11_works_50 ?_
      replace hF := Option.some.inj hF
      subst hF
      exact a_iret rfl (Nat.zero_le _) (Nat.zero_le _) dX11_works_52 ⟨rfl, rfl⟩
    · replace hF := (if_neg c2).symm.trans hF
      refine a_iload dX11_works_24 4 rfl ?_
      refine a_i2l dX11_works_26 ?_
      refine a_lconst (v := (0 : Int64)) dX11_works_27 (by decide) ?_
      refine a_ldc2 (v := (500 : Int64)) kw_1175 dX11_works_28 ?_
      obtain ⟨r31, s31, e31, hF⟩ := bd_some hF
      refine a_invS hZ.1 (As := [.long a4.toInt64, .long (0 : Int64), .long (500 : Int64)]) (rest := []) lk_X11_126 ⟨⟨by decide, by decide⟩, by decide, by decide⟩ rfl (Nat.le_of_ble_eq_true rfl) dX11_works_31 (m_X11_in hZ  e31) ?_
      show AW Z l iX11_works (Pq (rI R)) 0 0 34 [(0, .ref (za Z 60 0)), (1, .int a1), (2, .int a2), (3, .int a3), (4, .int a4), (5, .int a5)] [.int r31] s31
      refine a_if_eq 50 dX11_works_34 (by decide) (fun c3 => ?_) (fun c3 => ?_)
      · replace hF := (if_pos c3).symm.trans hF
        refine a_ldc (v := (-1000001)) kw_1136 dX11_works_50 ?_
        replace hF := Option.some.inj hF
        subst hF
        exact a_iret rfl (Nat.zero_le _) (Nat.zero_le _) dX11_works_52 ⟨rfl, rfl⟩
      · replace hF := (if_neg c3).symm.trans hF
        refine a_iload dX11_works_37 5 rfl ?_
        refine a_i2l dX11_works_39 ?_
        refine a_lconst (v := (0 : Int64)) dX11_works_40 (by decide) ?_
        refine a_ldc2 (v := (2 : Int64)) kw_1135 dX11_works_41 ?_
        obtain ⟨r44, s44, e44, hF⟩ := bd_some hF
        refine a_invS hZ.1 (As := [.long a5.toInt64, .long (0 : Int64), .long (2 : Int64)]) (rest := []) lk_X11_126 ⟨⟨by decide, by decide⟩, by decide, by decide⟩ rfl (Nat.le_of_ble_eq_true rfl) dX11_works_44 (m_X11_in hZ  e44) ?_
        show AW Z l iX11_works (Pq (rI R)) 0 0 47 [(0, .ref (za Z 60 0)), (1, .int a1), (2, .int a2), (3, .int a3), (4, .int a4), (5, .int a5)] [.int r44] s44
        refine a_if_ne 53 dX11_works_47 (by decide) (fun c4 => ?_) (fun c4 => ?_)
        · replace hF := (if_neg c4).symm.trans hF
          refine a_aload_n dX11_works_53 0 rfl rfl ?_
          refine a_iload_n dX11_works_54 1 rfl rfl ?_
          refine a_iload_n dX11_works_55 2 rfl rfl ?_
          refine a_iconst (v := (2 : Int32)) dX11_works_56 (by decide) ?_
          refine a_iload_n dX11_works_57 3 rfl rfl ?_
          refine a_imul dX11_works_58 ?_
          obtain ⟨r59, s59, e59, hF⟩ := bd_some hF
          refine a_invV hZ.1 (As := [.int a1, .int a2, .int ((2 : Int32) * a3)]) (rest := []) (hZ.2 60 0 (by decide) (by decide) Nat.one_pos) lk_X11_316 ⟨⟨by decide, by decide⟩, by decide, by decide⟩ rfl (Nat.le_of_ble_eq_true rfl) dX11_works_59 (m_X11_lookItems hZ  e59) ?_
          show AW Z l iX11_works (Pq (rI R)) 0 0 62 [(0, .ref (za Z 60 0)), (1, .int a1), (2, .int a2), (3, .int a3), (4, .int a4), (5, .int a5)] [.int r59] s59
          refine a_istore [(6, .int r59), (0, .ref (za Z 60 0)), (1, .int a1), (2, .int a2), (3, .int a3), (4, .int a4), (5, .int a5)] dX11_works_62 (by decide) rfl ?_
          refine a_iload dX11_works_64 0 rfl ?_
          refine a_if_ge 72 dX11_works_66 (by decide) (fun c5 => ?_) (fun c5 => ?_)
          · replace hF := (if_pos c5).symm.trans hF
            refine a_bipush (v := (80 : Int32)) dX11_works_72 (by decide) ?_
            refine a_iload_n dX11_works_74 2 rfl rfl ?_
            refine a_imul dX11_works_75 ?_
            refine a_iload_n dX11_works_76 3 rfl rfl ?_
            refine a_iadd dX11_works_77 ?_
            refine a_istore [(7, .int (((80 : Int32) * a1) + a2)), (6, .int r59), (0, .ref (za Z 60 0)), (1, .int a1), (2, .int a2), (3, .int a3), (4, .int a4), (5, .int a5)] dX11_works_78 (by decide) rfl ?_
            refine a_iconst (v := (0 : Int32)) dX11_works_80 (by decide) ?_
            refine a_istore [(8, .int (0 : Int32)), (7, .int (((80 : Int32) * a1) + a2)), (6, .int r59), (0, .ref (za Z 60 0)), (1, .int a1), (2, .int a2), (3, .int a3), (4, .int a4), (5, .int a5)] dX11_works_81 (by decide) rfl ?_
            refine a_loc [(0, .ref (za Z 60 0)), (3, .int a3), (4, .int a4), (5, .int a5), (7, .int (((80 : Int32) * a1) + a2)), (8, .int (0 : Int32))] [3, 6, 7, 8, 1, 0] rfl ?_
            exact w_X11_works_83 (l := l) hZ  (F_X11_works_146 (zg Z) a1 a2 a3 a4 a5 ) (w_X11_works_146 (l := l) hZ  ) fu (((80 : Int32) * a1) + a2) (0 : Int32)  _ hF
          · replace hF := (if_neg c5).symm.trans hF
            refine a_iload dX11_works_69 0 rfl ?_
            replace hF := Option.some.inj hF
            subst hF
            exact a_iret rfl (Nat.zero_le _) (Nat.zero_le _) dX11_works_71 ⟨rfl, rfl⟩
        · replace hF := (if_pos c4).symm.trans hF
          refine a_ldc (v := (-1000001)) kw_1136 dX11_works_50 ?_
          replace hF := Option.some.inj hF
          subst hF
          exact a_iret rfl (Nat.zero_le _) (Nat.zero_le _) dX11_works_52 ⟨rfl, rfl⟩
theorem m_X11_works {Z : ZE} {l : Launch} (hZ : OkM Z) {a1 : Int32} {a2 : Int32} {a3 : Int32} {a4 : Int32} {a5 : Int32}  {s : St} {R : Int32 × St} (hF : F_X11_works (zg Z) a1 a2 a3 a4 a5 s = some R) : Sp Z l yX11_works iX11_works [.ref (za Z 60 0), .int a1, .int a2, .int a3, .int a4, .int a5] s (rI R) :=
  Sp.of (by decide) rfl (Nat.le_of_ble_eq_true rfl) (w_X11_works hZ  s hF)
