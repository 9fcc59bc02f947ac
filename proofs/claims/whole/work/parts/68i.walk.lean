-- X11_stepOnce
set_option maxRecDepth 100000 in
set_option maxHeartbeats 4000000 in
theorem w_X11_stepOnce_119 {Z : ZE} {l : Launch} (hZ : OkM Z)   {R : Unit × St}    (s : St) (hF : F_X11_stepOnce_119 (zg Z)   s = some R) : AW Z l iX11_stepOnce (Pq (rU R)) 0 0 119 [(0, .ref (za Z 60 0))] [] s := by
  unfold F_X11_stepOnce_119 at hF
  refine a_aload_n dX11_stepOnce_119 0 rfl rfl ?_
  refine a_dup dX11_stepOnce_120 rfl ?_
  refine a_getI hZ.1 (s 60 0 10) (hZ.2 60 0 (by decide) (by decide) Nat.one_pos) fl_X11_188 rfl rfl dX11_stepOnce_121 ?_
  refine a_iconst (v := (1 : Int32)) dX11_stepOnce_124 (by decide) ?_
  refine a_iadd dX11_stepOnce_125 ?_
  refine a_put hZ.1 (hZ.2 60 0 (by decide) (by decide) Nat.one_pos) fl_X11_188 rfl rfl rfl dX11_stepOnce_126 ?_
  replace hF := Option.some.inj hF
  subst hF
  exact a_vret rfl (Nat.zero_le _) (Nat.zero_le _) dX11_stepOnce_129 ⟨rfl, rfl⟩
set_option maxRecDepth 100000 in
set_option maxHeartbeats 4000000 in
theorem w_X11_stepOnce_100 {Z : ZE} {l : Launch} (hZ : OkM Z)   {R : Unit × St} (h119_ : St → Option (Unit × St)) (w119_ : ∀   (s : St), h119_  s = some R → AW Z l iX11_stepOnce (Pq (rU R)) 0 0 119 [(0, .ref (za Z 60 0))] [] s) : ∀ (n_ : Nat) (v1 : Int32)  (s : St), F_X11_stepOnce_100 (zg Z)  h119_ n_ v1 s = some R → AW Z l iX11_stepOnce (Pq (rU R)) 0 0 100 [(0, .ref (za Z 60 0)), (1, .int v1)] [] s := by
  intro n_
  induction n_ with
  | zero =>
    intro v1 s hF
    exact absurd hF (by rw [F_X11_stepOnce_100]; exact fun q => by cases q)
  | succ n_ w100_ =>
    intro v1 s hF
    rw [F_X11_stepOnce_100] at hF
    refine a_iload_n dX11_stepOnce_100 1 rfl rfl ?_
    refine a_aload_n dX11_stepOnce_101 0 rfl rfl ?_
    refine a_getI hZ.1 (s 60 0 42) (hZ.2 60 0 (by decide) (by decide) Nat.one_pos) fl_X11_202 rfl rfl dX11_stepOnce_102 ?_
    refine a_icmp_ge 119 dX11_stepOnce_105 (by decide) (fun q1 => ?_) (fun q1 => ?_)
    · replace hF := (if_pos q1).symm.trans hF
      refine a_loc [(0, .ref (za Z 60 0))] [0] rfl ?_
      exact w119_   _ hF
    · replace hF := (if_neg q1).symm.trans hF
      refine a_aload_n dX11_stepOnce_108 0 rfl rfl ?_
      refine a_iload_n dX11_stepOnce_109 1 rfl rfl ?_
      obtain ⟨r110, s110, e110, hF⟩ := bd_some hF
      refine a_invV hZ.1 (As := [.int v1]) (rest := []) (hZ.2 60 0 (by decide) (by decide) Nat.one_pos) lk_X11_205 ⟨⟨by decide, by decide⟩, by decide, by decide⟩ rfl (Nat.le_of_ble_eq_true rfl) dX11_stepOnce_110 (m_X11_live hZ  e110) ?_
      show AW Z l iX11_stepOnce (Pq (rU R)) 0 0 113 [(0, .ref (za Z 60 0)), (1, .int v1)] [] s110
      refine a_iinc [(1, .int (v1 + 1)), (0, .ref (za Z 60 0))] dX11_stepOnce_113 1 rfl rfl (by decide) rfl ?_
      refine a_goto 100 dX11_stepOnce_116 (by decide) ?_
      refine a_loc [(0, .ref (za Z 60 0)), (1, .int (v1 + 1))] [1, 0] rfl ?_
      exact w100_ (v1 + 1)  _ hF
set_option maxRecDepth 100000 in
set_option maxHeartbeats 4000000 in
theorem w_X11_stepOnce_98 {Z : ZE} {l : Launch} (hZ : OkM Z)   {R : Unit × St}    (s : St) (hF : F_X11_stepOnce_98 (zg Z)   s = some R) : AW Z l iX11_stepOnce (Pq (rU R)) 0 0 98 [(0, .ref (za Z 60 0))] [] s := by
  unfold F_X11_stepOnce_98 at hF
  refine a_iconst (v := (0 : Int32)) dX11_stepOnce_98 (by decide) ?_
  refine a_istore_n [(1, .int (0 : Int32)), (0, .ref (za Z 60 0))] dX11_stepOnce_99 rfl (by decide) rfl ?_
  refine a_loc [(0, .ref (za Z 60 0)), (1, .int (0 : Int32))] [1, 0] rfl ?_
  exact w_X11_stepOnce_100 (l := l) hZ  (F_X11_stepOnce_119 (zg Z)  ) (w_X11_stepOnce_119 (l := l) hZ  ) fu (0 : Int32)  _ hF
set_option maxRecDepth 100000 in
set_option maxHeartbeats 4000000 in
theorem w_X11_stepOnce_79 {Z : ZE} {l : Launch} (hZ : OkM Z)   {R : Unit × St} (h98_ : St → Option (Unit × St)) (w98_ : ∀   (s : St), h98_  s = some R → AW Z l iX11_stepOnce (Pq (rU R)) 0 0 98 [(0, .ref (za Z 60 0))] [] s) : ∀ (n_ : Nat) (v1 : Int32)  (s : St), F_X11_stepOnce_79 (zg Z)  h98_ n_ v1 s = some R → AW Z l iX11_stepOnce (Pq (rU R)) 0 0 79 [(0, .ref (za Z 60 0)), (1, .int v1)] [] s := by
  intro n_
  induction n_ with
  | zero =>
    intro v1 s hF
    exact absurd hF (by rw [F_X11_stepOnce_79]; exact fun q => by cases q)
  | succ n_ w79_ =>
    intro v1 s hF
    rw [F_X11_stepOnce_79] at hF
    refine a_iload_n dX11_stepOnce_79 1 rfl rfl ?_
    refine a_aload_n dX11_stepOnce_80 0 rfl rfl ?_
    refine a_getI hZ.1 (s 60 0 15) (hZ.2 60 0 (by decide) (by decide) Nat.one_pos) fl_X11_145 rfl rfl dX11_stepOnce_81 ?_
    refine a_icmp_ge 98 dX11_stepOnce_84 (by decide) (fun q1 => ?_) (fun q1 => ?_)
    · replace hF := (if_pos q1).symm.trans hF
      refine a_loc [(0, .ref (za Z 60 0))] [0] rfl ?_
      exact w98_   _ hF
    · replace hF := (if_neg q1).symm.trans hF
      refine a_aload_n dX11_stepOnce_87 0 rfl rfl ?_
      refine a_iload_n dX11_stepOnce_88 1 rfl rfl ?_
      obtain ⟨r89, s89, e89, hF⟩ := bd_some hF
      refine a_invV hZ.1 (As := [.int v1]) (rest := []) (hZ.2 60 0 (by decide) (by decide) Nat.one_pos) lk_X11_198 ⟨⟨by decide, by decide⟩, by decide, by decide⟩ rfl (Nat.le_of_ble_eq_true rfl) dX11_stepOnce_89 (m_X11_work hZ  e89) ?_
      show AW Z l iX11_stepOnce (Pq (rU R)) 0 0 92 [(0, .ref (za Z 60 0)), (1, .int v1)] [] s89
      refine a_iinc [(1, .int (v1 + 1)), (0, .ref (za Z 60 0))] dX11_stepOnce_92 1 rfl rfl (by decide) rfl ?_
      refine a_goto 79 dX11_stepOnce_95 (by decide) ?_
      refine a_loc [(0, .ref (za Z 60 0)), (1, .int (v1 + 1))] [1, 0] rfl ?_
      exact w79_ (v1 + 1)  _ hF
set_option maxRecDepth 100000 in
set_option maxHeartbeats 4000000 in
theorem w_X11_stepOnce_77 {Z : ZE} {l : Launch} (hZ : OkM Z)   {R : Unit × St}    (s : St) (hF : F_X11_stepOnce_77 (zg Z)   s = some R) : AW Z l iX11_stepOnce (Pq (rU R)) 0 0 77 [(0, .ref (za Z 60 0))] [] s := by
  unfold F_X11_stepOnce_77 at hF
  refine a_iconst (v := (0 : Int32)) dX11_stepOnce_77 (by decide) ?_
  refine a_istore_n [(1, .int (0 : Int32)), (0, .ref (za Z 60 0))] dX11_stepOnce_78 rfl (by decide) rfl ?_
  refine a_loc [(0, .ref (za Z 60 0)), (1, .int (0 : Int32))] [1, 0] rfl ?_
  exact w_X11_stepOnce_79 (l := l) hZ  (F_X11_stepOnce_98 (zg Z)  ) (w_X11_stepOnce_98 (l := l) hZ  ) fu (0 : Int32)  _ hF
set_option maxRecDepth 100000 in
set_option maxHeartbeats 4000000 in
theorem w_X11_stepOnce_55 {Z : ZE} {l : Launch} (hZ : OkM Z)   {R : Unit × St} (h77_ : St → Option (Unit × St)) (w77_ : ∀   (s : St), h77_  s = some R → AW Z l iX11_stepOnce (Pq (rU R)) 0 0 77 [(0, .ref (za Z 60 0))] [] s) : ∀ (n_ : Nat) (v1 : Int32)  (s : St), F_X11_stepOnce_55 (zg Z)  h77_ n_ v1 s = some R → AW Z l iX11_stepOnce (Pq (rU R)) 0 0 55 [(0, .ref (za Z 60 0)), (1, .int v1)] [] s := by
  intro n_
  induction n_ with
  | zero =>
    intro v1 s hF
    exact absurd hF (by rw [F_X11_stepOnce_55]; exact fun q => by cases q)
  | succ n_ w55_ =>
    intro v1 s hF
    rw [F_X11_stepOnce_55] at hF
    refine a_iload_n dX11_stepOnce_55 1 rfl rfl ?_
    refine a_iconst (v := (4 : Int32)) dX11_stepOnce_56 (by decide) ?_
    refine a_icmp_ge 77 dX11_stepOnce_57 (by decide) (fun q1 => ?_) (fun q1 => ?_)
    · replace hF := (if_pos q1).symm.trans hF
      refine a_loc [(0, .ref (za Z 60 0))] [0] rfl ?_
      exact w77_   _ hF
    · replace hF := (if_neg q1).symm.trans hF
      refine a_aload_n dX11_stepOnce_60 0 rfl rfl ?_
      refine a_getR hZ.1 (hZ.2 60 0 (by decide) (by decide) Nat.one_pos) fl_X11_70 rfl 0 rfl dX11_stepOnce_61 ?_
      refine a_iload_n dX11_stepOnce_64 1 rfl rfl ?_
      refine a_aload_n dX11_stepOnce_65 0 rfl rfl ?_
      refine a_iload_n dX11_stepOnce_66 1 rfl rfl ?_
      obtain ⟨r67, s67, e67, hF⟩ := bd_some hF
      refine a_invV hZ.1 (As := [.int v1]) (rest := [.int v1, .ref (za Z 77 0)]) (hZ.2 60 0 (by decide) (by decide) Nat.one_pos) lk_X11_195 ⟨⟨by decide, by decide⟩, by decide, by decide⟩ rfl (Nat.le_of_ble_eq_true rfl) dX11_stepOnce_67 (m_X11_priceOf hZ  e67) ?_
      show AW Z l iX11_stepOnce (Pq (rU R)) 0 0 70 [(0, .ref (za Z 60 0)), (1, .int v1)] [.int r67, .int v1, .ref (za Z 77 0)] s67
      obtain ⟨p2, hF⟩ := gd_some hF
      refine a_iast hZ.1 (hZ.2 77 0 (by decide) (by decide) Nat.one_pos) rfl rfl (inb_vp p2) dX11_stepOnce_70 ?_
      refine a_iinc [(1, .int (v1 + 1)), (0, .ref (za Z 60 0))] dX11_stepOnce_71 1 rfl rfl (by decide) rfl ?_
      refine a_goto 55 dX11_stepOnce_74 (by decide) ?_
      refine a_loc [(0, .ref (za Z 60 0)), (1, .int (v1 + 1))] [1, 0] rfl ?_
      exact w55_ (v1 + 1)  _ hF
set_option maxRecDepth 100000 in
set_option maxHeartbeats 4000000 in
theorem w_X11_stepOnce_53 {Z : ZE} {l : Launch} (hZ : OkM Z)   {R : Unit × St}    (s : St) (hF : F_X11_stepOnce_53 (zg Z)   s = some R) : AW Z l iX11_stepOnce (Pq (rU R)) 0 0 53 [(0, .ref (za Z 60 0))] [] s := by
  unfold F_X11_stepOnce_53 at hF
  refine a_iconst (v := (0 : Int32)) dX11_stepOnce_53 (by decide) ?_
  refine a_istore_n [(1, .int (0 : Int32)), (0, .ref (za Z 60 0))] dX11_stepOnce_54 rfl (by decide) rfl ?_
  refine a_loc [(0, .ref (za Z 60 0)), (1, .int (0 : Int32))] [1, 0] rfl ?_
  exact w_X11_stepOnce_55 (l := l) hZ  (F_X11_stepOnce_77 (zg Z)  ) (w_X11_stepOnce_77 (l := l) hZ  ) fu (0 : Int32)  _ hF
set_option maxRecDepth 100000 in
set_option maxHeartbeats 4000000 in
theorem w_X11_stepOnce_45 {Z : ZE} {l : Launch} (hZ : OkM Z)   {R : Unit × St} (h2_ : Int32 → St → Option (Unit × St)) (w2_ : ∀ (v1 : Int32)  (s : St), h2_ v1 s = some R → AW Z l iX11_stepOnce (Pq (rU R)) 0 0 2 [(0, .ref (za Z 60 0)), (1, .int v1)] [] s) (h53_ : St → Option (Unit × St)) (w53_ : ∀   (s : St), h53_  s = some R → AW Z l iX11_stepOnce (Pq (rU R)) 0 0 53 [(0, .ref (za Z 60 0))] [] s) (v1 : Int32) (x1 : Int32) (x2 : Int32) (x3 : Int32)  (s : St) (hF : F_X11_stepOnce_45 (zg Z)  h2_ h53_ v1 x1 x2 x3 s = some R) : AW Z l iX11_stepOnce (Pq (rU R)) 0 0 45 [(0, .ref (za Z 60 0)), (1, .int v1)] [.int x3, .int x2, .int x1, .ref (za Z 66 0)] s := by
  unfold F_X11_stepOnce_45 at hF
  refine a_iadd dX11_stepOnce_45 ?_
  obtain ⟨p1, hF⟩ := gd_some hF
  refine a_iast hZ.1 (hZ.2 66 0 (by decide) (by decide) Nat.one_pos) rfl rfl (inb_vp p1) dX11_stepOnce_46 ?_
  refine a_iinc [(1, .int (v1 + 1)), (0, .ref (za Z 60 0))] dX11_stepOnce_47 1 rfl rfl (by decide) rfl ?_
  refine a_goto 2 dX11_stepOnce_50 (by decide) ?_
  refine a_loc [(0, .ref (za Z 60 0)), (1, .int (v1 + 1))] [1, 0] rfl ?_
  exact w2_ (v1 + 1)  _ hF
set_option maxRecDepth 100000 in
set_option maxHeartbeats 4000000 in
theorem w_X11_stepOnce_2 {Z : ZE} {l : Launch} (hZ : OkM Z)   {R : Unit × St} (h53_ : St → Option (Unit × St)) (w53_ : ∀   (s : St), h53_  s = some R → AW Z l iX11_stepOnce (Pq (rU R)) 0 0 53 [(0, .ref (za Z 60 0))] [] s) : ∀ (n_ : Nat) (v1 : Int32)  (s : St), F_X11_stepOnce_2 (zg Z)  h53_ n_ v1 s = some R → AW Z l iX11_stepOnce (Pq (rU R)) 0 0 2 [(0, .ref (za Z 60 0)), (1, .int v1)] [] s := by
  intro n_
  induction n_ with
  | zero =>
    intro v1 s hF
    exact absurd hF (by rw [F_X11_stepOnce_2]; exact fun q => by cases q)
  | succ n_ w2_ =>
    intro v1 s hF
    rw [F_X11_stepOnce_2] at hF
    refine a_iload_n dX11_stepOnce_2 1 rfl rfl ?_
    refine a_aload_n dX11_stepOnce_3 0 rfl rfl ?_
    refine a_getI hZ.1 (s 60 0 11) (hZ.2 60 0 (by decide) (by decide) Nat.one_pos) fl_X11_169 rfl rfl dX11_stepOnce_4 ?_
    refine a_icmp_ge 53 dX11_stepOnce_7 (by decide) (fun q1 => ?_) (fun q1 => ?_)
    · replace hF := (if_pos q1).symm.trans hF
      refine a_loc [(0, .ref (za Z 60 0))] [0] rfl ?_
      exact w53_   _ hF
    · replace hF := (if_neg q1).symm.trans hF
      refine a_aload_n dX11_stepOnce_10 0 rfl rfl ?_
      refine a_getR hZ.1 (hZ.2 60 0 (by decide) (by decide) Nat.one_pos) fl_X11_33 rfl 0 rfl dX11_stepOnce_11 ?_
      refine a_aload_n dX11_stepOnce_14 0 rfl rfl ?_
      refine a_getR hZ.1 (hZ.2 60 0 (by decide) (by decide) Nat.one_pos) fl_X11_42 rfl 0 rfl dX11_stepOnce_15 ?_
      refine a_iload_n dX11_stepOnce_18 1 rfl rfl ?_
      obtain ⟨p2, hF⟩ := gd_some hF
      refine a_iald hZ.1 (s 68 0 v1.toNatClampNeg) (hZ.2 68 0 (by decide) (by decide) Nat.one_pos) rfl rfl (inb_vp p2) rfl dX11_stepOnce_19 ?_
      refine a_dup2 dX11_stepOnce_20 rfl rfl ?_
      obtain ⟨p3, hF⟩ := gd_some hF
      refine a_iald hZ.1 (s 66 0 (s 68 0 v1.toNatClampNeg).toNatClampNeg) (hZ.2 66 0 (by decide) (by decide) Nat.one_pos) rfl rfl (inb_vp p3) rfl dX11_stepOnce_21 ?_
      refine a_aload_n dX11_stepOnce_22 0 rfl rfl ?_
      refine a_getR hZ.1 (hZ.2 60 0 (by decide) (by decide) Nat.one_pos) fl_X11_39 rfl 0 rfl dX11_stepOnce_23 ?_
      refine a_iload_n dX11_stepOnce_26 1 rfl rfl ?_
      obtain ⟨p4, hF⟩ := gd_some hF
      refine a_iald hZ.1 (s 67 0 v1.toNatClampNeg) (hZ.2 67 0 (by decide) (by decide) Nat.one_pos) rfl rfl (inb_vp p4) rfl dX11_stepOnce_27 ?_
      refine a_aload_n dX11_stepOnce_28 0 rfl rfl ?_
      refine a_getI hZ.1 (s 60 0 10) (hZ.2 60 0 (by decide) (by decide) Nat.one_pos) fl_X11_188 rfl rfl dX11_stepOnce_29 ?_
      refine a_icmp_ne 44 dX11_stepOnce_32 (by decide) (fun q5 => ?_) (fun q5 => ?_)
      · replace hF := (if_neg q5).symm.trans hF
        refine a_iconst (v := (0 : Int32)) dX11_stepOnce_44 (by decide) ?_
        exact w_X11_stepOnce_45 (l := l) hZ  (F_X11_stepOnce_2 (zg Z)  h53_ n_) w2_ h53_ w53_ v1 (s 68 0 v1.toNatClampNeg) (s 66 0 (s 68 0 v1.toNatClampNeg).toNatClampNeg) (0 : Int32)  _ hF
      · replace hF := (if_pos q5).symm.trans hF
        refine a_aload_n dX11_stepOnce_35 0 rfl rfl ?_
        refine a_getR hZ.1 (hZ.2 60 0 (by decide) (by decide) Nat.one_pos) fl_X11_45 rfl 0 rfl dX11_stepOnce_36 ?_
        refine a_iload_n dX11_stepOnce_39 1 rfl rfl ?_
        obtain ⟨p6, hF⟩ := gd_some hF
        refine a_iald hZ.1 (s 69 0 v1.toNatClampNeg) (hZ.2 69 0 (by decide) (by decide) Nat.one_pos) rfl rfl (inb_vp p6) rfl dX11_stepOnce_40 ?_
        refine a_goto 45 dX11_stepOnce_41 (by decide) ?_
        exact w_X11_stepOnce_45 (l := l) hZ  (F_X11_stepOnce_2 (zg Z)  h53_ n_) w2_ h53_ w53_ v1 (s 68 0 v1.toNatClampNeg) (s 66 0 (s 68 0 v1.toNatClampNeg).toNatClampNeg) (s 69 0 v1.toNatClampNeg)  _ hF
set_option maxRecDepth 100000 in
set_option maxHeartbeats 4000000 in
theorem w_X11_stepOnce {Z : ZE} {l : Launch} (hZ : OkM Z)   {R : Unit × St}    (s : St) (hF : F_X11_stepOnce (zg Z)   s = some R) : AW Z l iX11_stepOnce (Pq (rU R)) 0 0 0 [(0, .ref (za Z 60 0))] [] s := by
  unfold F_X11_stepOnce at hF
  refine a_iconst (v := (0 : Int32)) dX11_stepOnce_0 (by decide) ?_
  refine a_istore_n [(1, .int (0 : Int32)), (0, .ref (za Z 60 0))] dX11_stepOnce_1 rfl (by decide) rfl ?_
  refine a_loc [(0, .ref (za Z 60 0)), (1, .int (0 : Int32))] [1, 0] rfl ?_
  exact w_X11_stepOnce_2 (l := l) hZ  (F_X11_stepOnce_53 (zg Z)  ) (w_X11_stepOnce_53 (l := l) hZ  ) fu (0 : Int32)  _ hF
theorem m_X11_stepOnce {Z : ZE} {l : Launch} (hZ : OkM Z)   {s : St} {R : Unit × St} (hF : F_X11_stepOnce (zg Z)  s = some R) : Sp Z l yX11_stepOnce iX11_stepOnce [.ref (za Z 60 0)] s (rU R) :=
  Sp.of (by decide) rfl (Nat.le_of_ble_eq_true rfl) (w_X11_stepOnce hZ  s hF)
-- X11_step
set_option maxRecDepth 100000 in
set_option maxHeartbeats 4000000 in
theorem w_X11_step_22 {Z : ZE} {l : Launch} (hZ : OkM Z) {a1 : Int32}  {R : Int32 × St}  : ∀ (n_ : Nat) (v2 : Int32)  (s : St), F_X11_step_22 (zg Z) a1 n_ v2 s = some R → AW Z l iX11_step (Pq (rI R)) 0 0 22 [(0, .ref (za Z 60 0)), (1, .int a1), (2, .int v2)] [] s := by
  intro n_
  induction n_ with
  | zero =>
    intro v2 s hF
    exact absurd hF (by rw [F_X11_step_22]; exact fun q => by cases q)
  | succ n_ w22_ =>
    intro v2 s hF
    rw [F_X11_step_22] at hF
    refine a_iload_n dX11_step_22 2 rfl rfl ?_
    refine a_iload_n dX11_step_23 1 rfl rfl ?_
    refine a_icmp_ge 46 dX11_step_24 (by decide) (fun q1 => ?_) (fun q1 => ?_)
    · replace hF := (if_pos q1).symm.trans hF
      refine a_iload_n dX11_step_46 2 rfl rfl ?_
      replace hF := Option.some.inj hF
      subst hF
      exact a_iret rfl (Nat.zero_le _) (Nat.zero_le _) dX11_step_47 ⟨rfl, rfl⟩
    · replace hF := (if_neg q1).symm.trans hF
      refine a_aload_n dX11_step_27 0 rfl rfl ?_
      refine a_getI hZ.1 (s 60 0 10) (hZ.2 60 0 (by decide) (by decide) Nat.one_pos) fl_X11_188 rfl rfl dX11_step_28 ?_
      refine a_bipush (v := (100 : Int32)) dX11_step_31 (by decide) ?_
      refine a_icmp_ge 46 dX11_step_33 (by decide) (fun q2 => ?_) (fun q2 => ?_)
      · replace hF := (if_pos q2).symm.trans hF
        refine a_iload_n dX11_step_46 2 rfl rfl ?_
        replace hF := Option.some.inj hF
        subst hF
        exact a_iret rfl (Nat.zero_le _) (Nat.zero_le _) dX11_step_47 ⟨rfl, rfl⟩
      · replace hF := (if_neg q2).symm.trans hF
        refine a_aload_n dX11_step_36 0 rfl rfl ?_
        obtain ⟨r37, s37, e37, hF⟩ := bd_some hF
        refine a_invV hZ.1 (As := []) (rest := []) (hZ.2 60 0 (by decide) (by decide) Nat.one_pos) lk_X11_210 ⟨⟨by decide, by decide⟩, by decide, by decide⟩ rfl (Nat.le_of_ble_eq_true rfl) dX11_step_37 (m_X11_stepOnce hZ  e37) ?_
        show AW Z l iX11_step (Pq (rI R)) 0 0 40 [(0, .ref (za Z 60 0)), (1, .int a1), (2, .int v2)] [] s37
        refine a_iinc [(2, .int (v2 + 1)), (0, .ref (za Z 60 0)), (1, .int a1)] dX11_step_40 2 rfl rfl (by decide) rfl ?_
        refine a_goto 22 dX11_step_43 (by decide) ?_
        refine a_loc [(0, .ref (za Z 60 0)), (1, .int a1), (2, .int (v2 + 1))] [1, 2, 0] rfl ?_
        exact w22_ (v2 + 1)  _ hF
set_option maxRecDepth 100000 in
set_option maxHeartbeats 4000000 in
theorem w_X11_step {Z : ZE} {l : Launch} (hZ : OkM Z) {a1 : Int32}  {R : Int32 × St}    (s : St) (hF : F_X11_step (zg Z) a1  s = some R) : AW Z l iX11_step (Pq (rI R)) 0 0 0 [(0, .ref (za Z 60 0)), (1, .int a1)] [] s := by
  unfold F_X11_step at hF
  refine a_aload_n dX11_step_0 0 rfl rfl ?_
  refine a_iconst (v := (0 : Int32)) dX11_step_1 (by decide) ?_
  refine a_put hZ.1 (hZ.2 60 0 (by decide) (by decide) Nat.one_pos) fl_X11_1 rfl rfl rfl dX11_step_2 ?_
  refine a_iload_n dX11_step_5 1 rfl rfl ?_
  refine a_i2l dX11_step_6 ?_
  refine a_lconst (v := (1 : Int64)) dX11_step_7 (by decide) ?_
  refine a_ldc2 (v := (20 : Int64)) kw_1200 dX11_step_8 ?_
  obtain ⟨r11, s11, e11, hF⟩ := bd_some hF
  refine a_invS hZ.1 (As := [.long a1.toInt64, .long (1 : Int64), .long (20 : Int64)]) (rest := []) lk_X11_126 ⟨⟨by decide, by decide⟩, by decide, by decide⟩ rfl (Nat.le_of_ble_eq_true rfl) dX11_step_11 (m_X11_in hZ  e11) ?_
  show AW Z l iX11_step (Pq (rI R)) 0 0 14 [(0, .ref (za Z 60 0)), (1, .int a1)] [.int r11] s11
  refine a_if_ne 20 dX11_step_14 (by decide) (fun q1 => ?_) (fun q1 => ?_)
  · replace hF := (if_neg q1).symm.trans hF
    refine a_iconst (v := (0 : Int32)) dX11_step_20 (by decide) ?_
    refine a_istore_n [(2, .int (0 : Int32)), (0, .ref (za Z 60 0)), (1, .int a1)] dX11_step_21 rfl (by decide) rfl ?_
    refine a_loc [(0, .ref (za Z 60 0)), (1, .int a1), (2, .int (0 : Int32))] [1, 2, 0] rfl ?_
    exact w_X11_step_22 (l := l) hZ   fu (0 : Int32)  _ hF
  · replace hF := (if_pos q1).symm.trans hF
    refine a_ldc (v := (-1000001)) kw_1136 dX11_step_17 ?_
    replace hF := Option.some.inj hF
    subst hF
    exact a_iret rfl (Nat.zero_le _) (Nat.zero_le _) dX11_step_19 ⟨rfl, rfl⟩
theorem m_X11_step {Z : ZE} {l : Launch} (hZ : OkM Z) {a1 : Int32}  {s : St} {R : Int32 × St} (hF : F_X11_step (zg Z) a1 s = some R) : Sp Z l yX11_step iX11_step [.ref (za Z 60 0), .int a1] s (rI R) :=
  Sp.of (by decide) rfl (Nat.le_of_ble_eq_true rfl) (w_X11_step hZ  s hF)
-- X11_stock
set_option maxRecDepth 100000 in
set_option maxHeartbeats 4000000 in
theorem w_X11_stock {Z : ZE} {l : Launch} (hZ : OkM Z) {a1 : Int32} {a2 : Int32} {a3 : Int32}  {R : Int32 × St}    (s : St) (hF : F_X11_stock (zg Z) a1 a2 a3  s = some R) : AW Z l iX11_stock (Pq (rI R)) 0 0 0 [(0, .ref (za Z 60 0)), (1, .int a1), (2, .int a2), (3, .int a3)] [] s := by
  unfold F_X11_stock at hF
  refine a_aload_n dX11_stock_0 0 rfl rfl ?_
  refine a_iconst (v := (0 : Int32)) dX11_stock_1 (by decide) ?_
  refine a_put hZ.1 (hZ.2 60 0 (by decide) (by decide) Nat.one_pos) fl_X11_1 rfl rfl rfl dX11_stock_2 ?_
  refine a_aload_n dX11_stock_5 0 rfl rfl ?_
  refine a_iload_n dX11_stock_6 1 rfl rfl ?_
  obtain ⟨r7, s7, e7, hF⟩ := bd_some hF
  refine a_invV hZ.1 (As := [.int a1]) (rest := []) (hZ.2 60 0 (by decide) (by decide) Nat.one_pos) lk_X11_177 ⟨⟨by decide, by decide⟩, by decide, by decide⟩ rfl (Nat.le_of_ble_eq_true rfl) dX11_stock_7 (m_X11_isMill hZ  e7) ?_
  show AW Z l iX11_stock (Pq (rI R)) 0 0 10 [(0, .ref (za Z 60 0)), (1, .int a1), (2, .int a2), (3, .int a3)] [.int r7] s7
  refine a_if_eq 32 dX11_stock_10 (by decide) (fun q1 => ?_) (fun q1 => ?_)
  · replace hF := (if_pos q1).symm.trans hF
    refine a_ldc (v := (-1000001)) kw_1136 dX11_stock_32 ?_
    replace hF := Option.some.inj hF
    subst hF
    exact a_iret rfl (Nat.zero_le _) (Nat.zero_le _) dX11_stock_34 ⟨rfl, rfl⟩
  · replace hF := (if_neg q1).symm.trans hF
    refine a_iload_n dX11_stock_13 2 rfl rfl ?_
    obtain ⟨r14, s14, e14, hF⟩ := bd_some hF
    refine a_invS hZ.1 (As := [.int a2]) (rest := []) lk_X11_150 ⟨⟨by decide, by decide⟩, by decide, by decide⟩ rfl (Nat.le_of_ble_eq_true rfl) dX11_stock_14 (m_X11_isSort hZ  e14) ?_
    show AW Z l iX11_stock (Pq (rI R)) 0 0 17 [(0, .ref (za Z 60 0)), (1, .int a1), (2, .int a2), (3, .int a3)] [.int r14] s14
    refine a_if_eq 32 dX11_stock_17 (by decide) (fun q2 => ?_) (fun q2 => ?_)
    · replace hF := (if_pos q2).symm.trans hF
      refine a_ldc (v := (-1000001)) kw_1136 dX11_stock_32 ?_
      replace hF := Option.some.inj hF
      subst hF
      exact a_iret rfl (Nat.zero_le _) (Nat.zero_le _) dX11_stock_34 ⟨rfl, rfl⟩
    · replace hF := (if_neg q2).symm.trans hF
      refine a_iload_n dX11_stock_20 3 rfl rfl ?_
      refine a_i2l dX11_stock_21 ?_
      refine a_lconst (v := (0 : Int64)) dX11_stock_22 (by decide) ?_
      refine a_ldc2 (v := (9999 : Int64)) kw_1165 dX11_stock_23 ?_
      obtain ⟨r26, s26, e26, hF⟩ := bd_some hF
      refine a_invS hZ.1 (As := [.long a3.toInt64, .long (0 : Int64), .long (9999 : Int64)]) (rest := []) lk_X11_126 ⟨⟨by decide, by decide⟩, by decide, by decide⟩ rfl (Nat.le_of_ble_eq_true rfl) dX11_stock_26 (m_X11_in hZ  e26) ?_
      show AW Z l iX11_stock (Pq (rI R)) 0 0 29 [(0, .ref (za Z 60 0)), (1, .int a1), (2, .int a2), (3, .int a3)] [.int r26] s26
      refine a_if_ne 35 dX11_stock_29 (by decide) (fun q3 => ?_) (fun q3 => ?_)
      · replace hF := (if_neg q3).symm.trans hF
        refine a_aload_n dX11_stock_35 0 rfl rfl ?_
        refine a_getR hZ.1 (hZ.2 60 0 (by decide) (by decide) Nat.one_pos) fl_X11_60 rfl 0 rfl dX11_stock_36 ?_
        refine a_iconst (v := (4 : Int32)) dX11_stock_39 (by decide) ?_
        refine a_iload_n dX11_stock_40 1 rfl rfl ?_
        refine a_imul dX11_stock_41 ?_
        refine a_iload_n dX11_stock_42 2 rfl rfl ?_
        refine a_iadd dX11_stock_43 ?_
        obtain ⟨p4, hF⟩ := gd_some hF
        refine a_iald hZ.1 (s26 74 0 (((4 : Int32) * a1) + a2).toNatClampNeg) (hZ.2 74 0 (by decide) (by decide) Nat.one_pos) rfl rfl (inb_vp p4) rfl dX11_stock_44 ?_
        refine a_istore [(4, .int (s26 74 0 (((4 : Int32) * a1) + a2).toNatClampNeg)), (0, .ref (za Z 60 0)), (1, .int a1), (2, .int a2), (3, .int a3)] dX11_stock_45 (by decide) rfl ?_
        refine a_aload_n dX11_stock_47 1 rfl rfl ?_
        refine a_getR hZ.1 (hZ.2 60 0 (by decide) (by decide) Nat.one_pos) fl_X11_60 rfl 0 rfl dX11_stock_48 ?_
        refine a_iconst (v := (4 : Int32)) dX11_stock_51 (by decide) ?_
        refine a_iload_n dX11_stock_52 2 rfl rfl ?_
        refine a_imul dX11_stock_53 ?_
        refine a_iload_n dX11_stock_54 3 rfl rfl ?_
        refine a_iadd dX11_stock_55 ?_
        refine a_iload_n dX11_stock_56 4 rfl rfl ?_
        obtain ⟨p5, hF⟩ := gd_some hF
        refine a_iast hZ.1 (hZ.2 74 0 (by decide) (by decide) Nat.one_pos) rfl rfl (inb_vp p5) dX11_stock_57 ?_
        refine a_iload dX11_stock_58 0 rfl ?_
        replace hF := Option.some.inj hF
        subst hF
        exact a_iret rfl (Nat.zero_le _) (Nat.zero_le _) dX11_stock_60 ⟨rfl, rfl⟩
      · replace hF := (if_pos q3).symm.trans hF
        refine a_ldc (v := (-1000001)) kw_1136 dX11_stock_32 ?_
        replace hF := Option.some.inj hF
        subst hF
        exact a_iret rfl (Nat.zero_le _) (Nat.zero_le _) dX11_stock_34 ⟨rfl, rfl⟩
theorem m_X11_stock {Z : ZE} {l : Launch} (hZ : OkM Z) {a1 : Int32} {a2 : Int32} {a3 : Int32}  {s : St} {R : Int32 × St} (hF : F_X11_stock (zg Z) a1 a2 a3 s = some R) : Sp Z l yX11_stock iX11_stock [.ref (za Z 60 0), .int a1, .int a2, .int a3] s (rI R) :=
  Sp.of (by decide) rfl (Nat.le_of_ble_eq_true rfl) (w_X11_stock hZ  s hF)
-- X11_stuff
set_option maxRecDepth 100000 in
set_option maxHeartbeats 4000000 in
theorem w_X11_stuff_152 {Z : ZE} {l : Launch} (hZ : OkM Z) {a1 : Int32} {a2 : Int32} {a3 : Int32}  {R : Int32 × St}  (x0 : Int32)  (s : St) (hF : F_X11_stuff_152 (zg Z) a1 a2 a3 x0 s = some R) : AW Z l iX11_stuff (Pq (rI R)) 0 0 152 [(0, .ref (za Z 60 0)), (1, .int a1), (2, .int a2), (3, .int a3)] [.int x0] s := by
  unfold F_X11_stuff_152 at hF
  refine a_istore [(4, .int x0), (0, .ref (za Z 60 0)), (1, .int a1), (2, .int a2), (3, .int a3)] dX11_stuff_152 (by decide) rfl ?_
  refine a_iload_n dX11_stuff_154 3 rfl rfl ?_
  refine a_if_ne 168 dX11_stuff_155 (by decide) (fun q1 => ?_) (fun q1 => ?_)
  · replace hF := (if_neg q1).symm.trans hF
    refine a_iload_n dX11_stuff_168 3 rfl rfl ?_
    refine a_iconst (v := (1 : Int32)) dX11_stuff_169 (by decide) ?_
    refine a_icmp_ne 183 dX11_stuff_170 (by decide) (fun q2 => ?_) (fun q2 => ?_)
    · replace hF := (if_neg q2).symm.trans hF
      refine a_iload_n dX11_stuff_183 3 rfl rfl ?_
      refine a_iconst (v := (2 : Int32)) dX11_stuff_184 (by decide) ?_
      refine a_icmp_ne 198 dX11_stuff_185 (by decide) (fun q3 => ?_) (fun q3 => ?_)
      · replace hF := (if_neg q3).symm.trans hF
        refine a_iload_n dX11_stuff_198 3 rfl rfl ?_
        refine a_iconst (v := (3 : Int32)) dX11_stuff_199 (by decide) ?_
        refine a_icmp_ne 211 dX11_stuff_200 (by decide) (fun q4 => ?_) (fun q4 => ?_)
        · replace hF := (if_neg q4).symm.trans hF
          refine a_aload_n dX11_stuff_211 1 rfl rfl ?_
          refine a_iload_n dX11_stuff_212 4 rfl rfl ?_
          refine a_put hZ.1 (hZ.2 60 0 (by decide) (by decide) Nat.one_pos) fl_X11_161 rfl rfl rfl dX11_stuff_213 ?_
          refine a_iload dX11_stuff_216 0 rfl ?_
          replace hF := Option.some.inj hF
          subst hF
          exact a_iret rfl (Nat.zero_le _) (Nat.zero_le _) dX11_stuff_218 ⟨rfl, rfl⟩
        · replace hF := (if_pos q4).symm.trans hF
          refine a_aload_n dX11_stuff_203 1 rfl rfl ?_
          refine a_iload_n dX11_stuff_204 4 rfl rfl ?_
          refine a_put hZ.1 (hZ.2 60 0 (by decide) (by decide) Nat.one_pos) fl_X11_36 rfl rfl rfl dX11_stuff_205 ?_
          refine a_goto 216 dX11_stuff_208 (by decide) ?_
          refine a_iload dX11_stuff_216 0 rfl ?_
          replace hF := Option.some.inj hF
          subst hF
          exact a_iret rfl (Nat.zero_le _) (Nat.zero_le _) dX11_stuff_218 ⟨rfl, rfl⟩
      · replace hF := (if_pos q3).symm.trans hF
        refine a_aload_n dX11_stuff_188 1 rfl rfl ?_
        refine a_getR hZ.1 (hZ.2 60 0 (by decide) (by decide) Nat.one_pos) fl_X11_33 rfl 0 rfl dX11_stuff_189 ?_
        refine a_iload_n dX11_stuff_192 2 rfl rfl ?_
        refine a_iload_n dX11_stuff_193 4 rfl rfl ?_
        obtain ⟨p5, hF⟩ := gd_some hF
        refine a_iast hZ.1 (hZ.2 66 0 (by decide) (by decide) Nat.one_pos) rfl rfl (inb_vp p5) dX11_stuff_194 ?_
        refine a_goto 216 dX11_stuff_195 (by decide) ?_
        refine a_iload dX11_stuff_216 0 rfl ?_
        replace hF := Option.some.inj hF
        subst hF
        exact a_iret rfl (Nat.zero_le _) (Nat.zero_le _) dX11_stuff_218 ⟨rfl, rfl⟩
    · replace hF := (if_pos q2).symm.trans hF
      refine a_aload_n dX11_stuff_173 1 rfl rfl ?_
      refine a_getR hZ.1 (hZ.2 60 0 (by decide) (by decide) Nat.one_pos) fl_X11_30 rfl 0 rfl dX11_stuff_174 ?_
      refine a_iload_n dX11_stuff_177 2 rfl rfl ?_
      refine a_iload_n dX11_stuff_178 4 rfl rfl ?_
      obtain ⟨p6, hF⟩ := gd_some hF
      refine a_iast hZ.1 (hZ.2 65 0 (by decide) (by decide) Nat.one_pos) rfl rfl (inb_vp p6) dX11_stuff_179 ?_
      refine a_goto 216 dX11_stuff_180 (by decide) ?_
      refine a_iload dX11_stuff_216 0 rfl ?_
      replace hF := Option.some.inj hF
      subst hF
      exact a_iret rfl (Nat.zero_le _) (Nat.zero_le _) dX11_stuff_218 ⟨rfl, rfl⟩
  · replace hF := (if_pos q1).symm.trans hF
    refine a_aload_n dX11_stuff_158 1 rfl rfl ?_
    refine a_getR hZ.1 (hZ.2 60 0 (by decide) (by decide) Nat.one_pos) fl_X11_27 rfl 0 rfl dX11_stuff_159 ?_
    refine a_iload_n dX11_stuff_162 2 rfl rfl ?_
    refine a_iload_n dX11_stuff_163 4 rfl rfl ?_
    obtain ⟨p7, hF⟩ := gd_some hF
    refine a_iast hZ.1 (hZ.2 64 0 (by decide) (by decide) Nat.one_pos) rfl rfl (inb_vp p7) dX11_stuff_164 ?_
    refine a_goto 216 dX11_stuff_165 (by decide) ?_
    refine a_iload dX11_stuff_216 0 rfl ?_
    replace hF := Option.some.inj hF
    subst hF
    exact a_iret rfl (Nat.zero_le _) (Nat.zero_le _) dX11_stuff_218 ⟨rfl, rfl⟩
set_option maxRecDepth 100000 in
set_option maxHeartbeats 4000000 in
theorem w_X11_stuff_86 {Z : ZE} {l : Launch} (hZ : OkM Z) {a1 : Int32} {a2 : Int32} {a3 : Int32}  {R : Int32 × St}  (x0 : Int64) (x1 : Int64) (x2 : Int64)  (s : St) (hF : F_X11_stuff_86 (zg Z) a1 a2 a3 x0 x1 x2 s = some R) : AW Z l iX11_stuff (Pq (rI R)) 0 0 86 [(0, .ref (za Z 60 0)), (1, .int a1), (2, .int a2), (3, .int a3)] [.long x2, .long x1, .long x0] s := by
  unfold F_X11_stuff_86 at hF
  obtain ⟨r86, s86, e86, hF⟩ := bd_some hF
  refine a_invS hZ.1 (As := [.long x0, .long x1, .long x2]) (rest := []) lk_X11_126 ⟨⟨by decide, by decide⟩, by decide, by decide⟩ rfl (Nat.le_of_ble_eq_true rfl) dX11_stuff_86 (m_X11_in hZ  e86) ?_
  show AW Z l iX11_stuff (Pq (rI R)) 0 0 89 [(0, .ref (za Z 60 0)), (1, .int a1), (2, .int a2), (3, .int a3)] [.int r86] s86
  refine a_if_ne 95 dX11_stuff_89 (by decide) (fun q1 => ?_) (fun q1 => ?_)
  · replace hF := (if_neg q1).symm.trans hF
    refine a_iload_n dX11_stuff_95 2 rfl rfl ?_
    refine a_if_ne 108 dX11_stuff_96 (by decide) (fun q2 => ?_) (fun q2 => ?_)
    · replace hF := (if_neg q2).symm.trans hF
      refine a_iload_n dX11_stuff_108 2 rfl rfl ?_
      refine a_iconst (v := (1 : Int32)) dX11_stuff_109 (by decide) ?_
      refine a_icmp_ne 122 dX11_stuff_110 (by decide) (fun q3 => ?_) (fun q3 => ?_)
      · replace hF := (if_neg q3).symm.trans hF
        refine a_iload_n dX11_stuff_122 2 rfl rfl ?_
        refine a_iconst (v := (2 : Int32)) dX11_stuff_123 (by decide) ?_
        refine a_icmp_ne 136 dX11_stuff_124 (by decide) (fun q4 => ?_) (fun q4 => ?_)
        · replace hF := (if_neg q4).symm.trans hF
          refine a_iload_n dX11_stuff_136 2 rfl rfl ?_
          refine a_iconst (v := (3 : Int32)) dX11_stuff_137 (by decide) ?_
          refine a_icmp_ne 148 dX11_stuff_138 (by decide) (fun q5 => ?_) (fun q5 => ?_)
          · replace hF := (if_neg q5).symm.trans hF
            refine a_aload_n dX11_stuff_148 0 rfl rfl ?_
            refine a_getI hZ.1 (s86 60 0 9) (hZ.2 60 0 (by decide) (by decide) Nat.one_pos) fl_X11_161 rfl rfl dX11_stuff_149 ?_
            exact w_X11_stuff_152 (l := l) hZ   (s86 60 0 9)  _ hF
          · replace hF := (if_pos q5).symm.trans hF
            refine a_aload_n dX11_stuff_141 0 rfl rfl ?_
            refine a_getI hZ.1 (s86 60 0 8) (hZ.2 60 0 (by decide) (by decide) Nat.one_pos) fl_X11_36 rfl rfl dX11_stuff_142 ?_
            refine a_goto 152 dX11_stuff_145 (by decide) ?_
            exact w_X11_stuff_152 (l := l) hZ   (s86 60 0 8)  _ hF
        · replace hF := (if_pos q4).symm.trans hF
          refine a_aload_n dX11_stuff_127 0 rfl rfl ?_
          refine a_getR hZ.1 (hZ.2 60 0 (by decide) (by decide) Nat.one_pos) fl_X11_33 rfl 0 rfl dX11_stuff_128 ?_
          refine a_iload_n dX11_stuff_131 1 rfl rfl ?_
          obtain ⟨p6, hF⟩ := gd_some hF
          refine a_iald hZ.1 (s86 66 0 a1.toNatClampNeg) (hZ.2 66 0 (by decide) (by decide) Nat.one_pos) rfl rfl (inb_vp p6) rfl dX11_stuff_132 ?_
          refine a_goto 152 dX11_stuff_133 (by decide) ?_
          exact w_X11_stuff_152 (l := l) hZ   (s86 66 0 a1.toNatClampNeg)  _ hF
      · replace hF := (if_pos q3).symm.trans hF
        refine a_aload_n dX11_stuff_113 0 rfl rfl ?_
        refine a_getR hZ.1 (hZ.2 60 0 (by decide) (by decide) Nat.one_pos) fl_X11_30 rfl 0 rfl dX11_stuff_114 ?_
        refine a_iload_n dX11_stuff_117 1 rfl rfl ?_
        obtain ⟨p7, hF⟩ := gd_some hF
        refine a_iald hZ.1 (s86 65 0 a1.toNatClampNeg) (hZ.2 65 0 (by decide) (by decide) Nat.one_pos) rfl rfl (inb_vp p7) rfl dX11_stuff_118 ?_
        refine a_goto 152 dX11_stuff_119 (by decide) ?_
        exact w_X11_stuff_152 (l := l) hZ   (s86 65 0 a1.toNatClampNeg)  _ hF
    · replace hF := (if_pos q2).symm.trans hF
      refine a_aload_n dX11_stuff_99 0 rfl rfl ?_
      refine a_getR hZ.1 (hZ.2 60 0 (by decide) (by decide) Nat.one_pos) fl_X11_27 rfl 0 rfl dX11_stuff_100 ?_
      refine a_iload_n dX11_stuff_103 1 rfl rfl ?_
      obtain ⟨p8, hF⟩ := gd_some hF
      refine a_iald hZ.1 (s86 64 0 a1.toNatClampNeg) (hZ.2 64 0 (by decide) (by decide) Nat.one_pos) rfl rfl (inb_vp p8) rfl dX11_stuff_104 ?_
      refine a_goto 152 dX11_stuff_105 (by decide) ?_
      exact w_X11_stuff_152 (l := l) hZ   (s86 64 0 a1.toNatClampNeg)  _ hF
  · replace hF := (if_pos q1).symm.trans hF
    refine a_ldc (v := (-1000001)) kw_1136 dX11_stuff_92 ?_
    replace hF := Option.some.inj hF
    subst hF
    exact a_iret rfl (Nat.zero_le _) (Nat.zero_le _) dX11_stuff_94 ⟨rfl, rfl⟩
set_option maxRecDepth 100000 in
set_option maxHeartbeats 4000000 in
theorem w_X11_stuff_40 {Z : ZE} {l : Launch} (hZ : OkM Z) {a1 : Int32} {a2 : Int32} {a3 : Int32}  {R : Int32 × St}  (x0 : Int64) (x1 : Int64)  (s : St) (hF : F_X11_stuff_40 (zg Z) a1 a2 a3 x0 x1 s = some R) : AW Z l iX11_stuff (Pq (rI R)) 0 0 40 [(0, .ref (za Z 60 0)), (1, .int a1), (2, .int a2), (3, .int a3)] [.long x1, .long x0] s := by
  unfold F_X11_stuff_40 at hF
  refine a_iload_n dX11_stuff_40 2 rfl rfl ?_
  refine a_if_ne 50 dX11_stuff_41 (by decide) (fun q1 => ?_) (fun q1 => ?_)
  · replace hF := (if_neg q1).symm.trans hF
    refine a_iload_n dX11_stuff_50 2 rfl rfl ?_
    refine a_iconst (v := (1 : Int32)) dX11_stuff_51 (by decide) ?_
    refine a_icmp_ne 61 dX11_stuff_52 (by decide) (fun q2 => ?_) (fun q2 => ?_)
    · replace hF := (if_neg q2).symm.trans hF
      refine a_iload_n dX11_stuff_61 2 rfl rfl ?_
      refine a_iconst (v := (2 : Int32)) dX11_stuff_62 (by decide) ?_
      refine a_icmp_ne 72 dX11_stuff_63 (by decide) (fun q3 => ?_) (fun q3 => ?_)
      · replace hF := (if_neg q3).symm.trans hF
        refine a_iload_n dX11_stuff_72 2 rfl rfl ?_
        refine a_iconst (v := (3 : Int32)) dX11_stuff_73 (by decide) ?_
        refine a_icmp_ne 83 dX11_stuff_74 (by decide) (fun q4 => ?_) (fun q4 => ?_)
        · replace hF := (if_neg q4).symm.trans hF
          refine a_ldc2 (v := (100 : Int64)) kw_1167 dX11_stuff_83 ?_
          exact w_X11_stuff_86 (l := l) hZ   x0 x1 (100 : Int64)  _ hF
        · replace hF := (if_pos q4).symm.trans hF
          refine a_ldc2 (v := (5000 : Int64)) kw_1166 dX11_stuff_77 ?_
          refine a_goto 86 dX11_stuff_80 (by decide) ?_
          exact w_X11_stuff_86 (l := l) hZ   x0 x1 (5000 : Int64)  _ hF
      · replace hF := (if_pos q3).symm.trans hF
        refine a_ldc2 (v := (9999 : Int64)) kw_1165 dX11_stuff_66 ?_
        refine a_goto 86 dX11_stuff_69 (by decide) ?_
        exact w_X11_stuff_86 (l := l) hZ   x0 x1 (9999 : Int64)  _ hF
    · replace hF := (if_pos q2).symm.trans hF
      refine a_ldc2 (v := (99 : Int64)) kw_1164 dX11_stuff_55 ?_
      refine a_goto 86 dX11_stuff_58 (by decide) ?_
      exact w_X11_stuff_86 (l := l) hZ   x0 x1 (99 : Int64)  _ hF
  · replace hF := (if_pos q1).symm.trans hF
    refine a_ldc2 (v := (1000 : Int64)) kw_1163 dX11_stuff_44 ?_
    refine a_goto 86 dX11_stuff_47 (by decide) ?_
    exact w_X11_stuff_86 (l := l) hZ   x0 x1 (1000 : Int64)  _ hF
set_option maxRecDepth 100000 in
set_option maxHeartbeats 4000000 in
theorem w_X11_stuff_29 {Z : ZE} {l : Launch} (hZ : OkM Z) {a1 : Int32} {a2 : Int32} {a3 : Int32}  {R : Int32 × St}    (s : St) (hF : F_X11_stuff_29 (zg Z) a1 a2 a3  s = some R) : AW Z l iX11_stuff (Pq (rI R)) 0 0 29 [(0, .ref (za Z 60 0)), (1, .int a1), (2, .int a2), (3, .int a3)] [] s := by
  unfold F_X11_stuff_29 at hF
  refine a_iload_n dX11_stuff_29 3 rfl rfl ?_
  refine a_i2l dX11_stuff_30 ?_
  refine a_iload_n dX11_stuff_31 2 rfl rfl ?_
  refine a_if_ne 39 dX11_stuff_32 (by decide) (fun q1 => ?_) (fun q1 => ?_)
  · replace hF := (if_neg q1).symm.trans hF
    refine a_lconst (v := (0 : Int64)) dX11_stuff_39 (by decide) ?_
    exact w_X11_stuff_40 (l := l) hZ   a3.toInt64 (0 : Int64)  _ hF
  · replace hF := (if_pos q1).symm.trans hF
    refine a_lconst (v := (1 : Int64)) dX11_stuff_35 (by decide) ?_
    refine a_goto 40 dX11_stuff_36 (by decide) ?_
    exact w_X11_stuff_40 (l := l) hZ   a3.toInt64 (1 : Int64)  _ hF
set_option maxRecDepth 100000 in
set_option maxHeartbeats 4000000 in
theorem w_X11_stuff {Z : ZE} {l : Launch} (hZ : OkM Z) {a1 : Int32} {a2 : Int32} {a3 : Int32}  {R : Int32 × St}    (s : St) (hF : F_X11_stuff (zg Z) a1 a2 a3  s = some R) : AW Z l iX11_stuff (Pq (rI R)) 0 0 0 [(0, .ref (za Z 60 0)), (1, .int a1), (2, .int a2), (3, .int a3)] [] s := by
  unfold F_X11_stuff at hF
  refine a_aload_n dX11_stuff_0 0 rfl rfl ?_
  refine a_iconst (v := (0 : Int32)) dX11_stuff_1 (by decide) ?_
  refine a_put hZ.1 (hZ.2 60 0 (by decide) (by decide) Nat.one_pos) fl_X11_1 rfl rfl rfl dX11_stuff_2 ?_
  refine a_iload_n dX11_stuff_5 2 rfl rfl ?_
  refine a_i2l dX11_stuff_6 ?_
  refine a_lconst (v := (0 : Int64)) dX11_stuff_7 (by decide) ?_
  refine a_ldc2 (v := (4 : Int64)) kw_1158 dX11_stuff_8 ?_
  obtain ⟨r11, s11, e11, hF⟩ := bd_some hF
  refine a_invS hZ.1 (As := [.long a2.toInt64, .long (0 : Int64), .long (4 : Int64)]) (rest := []) lk_X11_126 ⟨⟨by decide, by decide⟩, by decide, by decide⟩ rfl (Nat.le_of_ble_eq_true rfl) dX11_stuff_11 (m_X11_in hZ  e11) ?_
  show AW Z l iX11_stuff (Pq (rI R)) 0 0 14 [(0, .ref (za Z 60 0)), (1, .int a1), (2, .int a2), (3, .int a3)] [.int r11] s11
  refine a_if_eq 92 dX11_stuff_14 (by decide) (fun q1 => ?_) (fun q1 => ?_)
  · replace hF := (if_pos q1).symm.trans hF
    refine a_ldc (v := (-1000001)) kw_1136 dX11_stuff_92 ?_
    replace hF := Option.some.inj hF
    subst hF
    exact a_iret rfl (Nat.zero_le _) (Nat.zero_le _) dX11_stuff_94 ⟨rfl, rfl⟩
  · replace hF := (if_neg q1).symm.trans hF
    refine a_iload_n dX11_stuff_17 2 rfl rfl ?_
    refine a_iconst (v := (3 : Int32)) dX11_stuff_18 (by decide) ?_
    refine a_icmp_ge 29 dX11_stuff_19 (by decide) (fun q2 => ?_) (fun q2 => ?_)
    · replace hF := (if_pos q2).symm.trans hF
      exact w_X11_stuff_29 (l := l) hZ     _ hF
    · replace hF := (if_neg q2).symm.trans hF
      refine a_iload_n dX11_stuff_22 1 rfl rfl ?_
      obtain ⟨r23, s23, e23, hF⟩ := bd_some hF
      refine a_invS hZ.1 (As := [.int a1]) (rest := []) lk_X11_150 ⟨⟨by decide, by decide⟩, by decide, by decide⟩ rfl (Nat.le_of_ble_eq_true rfl) dX11_stuff_23 (m_X11_isSort hZ  e23) ?_
      show AW Z l iX11_stuff (Pq (rI R)) 0 0 26 [(0, .ref (za Z 60 0)), (1, .int a1), (2, .int a2), (3, .int a3)] [.int r23] s23
      refine a_if_eq 92 dX11_stuff_26 (by decide) (fun q3 => ?_) (fun q3 => ?_)
      · replace hF := (if_pos q3).symm.trans hF
        refine a_ldc (v := (-1000001)) kw_1136 dX11_stuff_92 ?_
        replace hF := Option.some.inj hF
        subst hF
        exact a_iret rfl (Nat.zero_le _) (Nat.zero_le _) dX11_stuff_94 ⟨rfl, rfl⟩
      · replace hF := (if_neg q3).symm.trans hF
        exact w_X11_stuff_29 (l := l) hZ     _ hF
theorem m_X11_stuff {Z : ZE} {l : Launch} (hZ : OkM Z) {a1 : Int32} {a2 : Int32} {a3 : Int32}  {s : St} {R : Int32 × St} (hF : F_X11_stuff (zg Z) a1 a2 a3 s = some R) : Sp Z l yX11_stuff iX11_stuff [.ref (za Z 60 0), .int a1, .int a2, .int a3] s (rI R) :=
  Sp.of (by decide) rfl (Nat.le_of_ble_eq_true rfl) (w_X11_stuff hZ  s hF)
-- X11_thing
set_option maxRecDepth 100000 in
set_option maxHeartbeats 4000000 in
theorem w_X11_thing_85 {Z : ZE} {l : Launch} (hZ : OkM Z) {a1 : Int32} {a2 : Int32} {a3 : Int32}  {R : Int32 × St}    (s : St) (hF : F_X11_thing_85 (zg Z) a1 a2 a3  s = some R) : AW Z l iX11_thing (Pq (rI R)) 0 0 85 [(0, .ref (za Z 60 0)), (1, .int a1), (2, .int a2), (3, .int a3)] [] s := by
  unfold F_X11_thing_85 at hF
  refine a_aload_n dX11_thing_85 0 rfl rfl ?_
  refine a_getI hZ.1 (s 60 0 47) (hZ.2 60 0 (by decide) (by decide) Nat.one_pos) fl_X11_326 rfl rfl dX11_thing_86 ?_
  refine a_bipush (v := (16 : Int32)) dX11_thing_89 (by decide) ?_
  refine a_icmp_ne 97 dX11_thing_91 (by decide) (fun q1 => ?_) (fun q1 => ?_)
  · replace hF := (if_neg q1).symm.trans hF
    refine a_aload_n dX11_thing_97 0 rfl rfl ?_
    refine a_getR hZ.1 (hZ.2 60 0 (by decide) (by decide) Nat.one_pos) fl_X11_103 rfl 0 rfl dX11_thing_98 ?_
    refine a_aload_n dX11_thing_101 0 rfl rfl ?_
    refine a_getI hZ.1 (s 60 0 47) (hZ.2 60 0 (by decide) (by decide) Nat.one_pos) fl_X11_326 rfl rfl dX11_thing_102 ?_
    refine a_iload_n dX11_thing_105 1 rfl rfl ?_
    obtain ⟨p2, hF⟩ := gd_some hF
    refine a_iast hZ.1 (hZ.2 88 0 (by decide) (by decide) Nat.one_pos) rfl rfl (inb_vp p2) dX11_thing_106 ?_
    refine a_aload_n dX11_thing_107 0 rfl rfl ?_
    refine a_getR hZ.1 (hZ.2 60 0 (by decide) (by decide) Nat.one_pos) fl_X11_106 rfl 0 rfl dX11_thing_108 ?_
    refine a_aload_n dX11_thing_111 0 rfl rfl ?_
    refine a_getI hZ.1 (s 60 0 47) (hZ.2 60 0 (by decide) (by decide) Nat.one_pos) fl_X11_326 rfl rfl dX11_thing_112 ?_
    refine a_iload_n dX11_thing_115 2 rfl rfl ?_
    obtain ⟨p3, hF⟩ := gd_some hF
    refine a_iast hZ.1 (hZ.2 89 0 (by decide) (by decide) Nat.one_pos) rfl rfl (inb_vp p3) dX11_thing_116 ?_
    refine a_aload_n dX11_thing_117 0 rfl rfl ?_
    refine a_getR hZ.1 (hZ.2 60 0 (by decide) (by decide) Nat.one_pos) fl_X11_109 rfl 0 rfl dX11_thing_118 ?_
    refine a_aload_n dX11_thing_121 0 rfl rfl ?_
    refine a_getI hZ.1 (s 60 0 47) (hZ.2 60 0 (by decide) (by decide) Nat.one_pos) fl_X11_326 rfl rfl dX11_thing_122 ?_
    refine a_iload_n dX11_thing_125 3 rfl rfl ?_
    obtain ⟨p4, hF⟩ := gd_some hF
    refine a_iast hZ.1 (hZ.2 90 0 (by decide) (by decide) Nat.one_pos) rfl rfl (inb_vp p4) dX11_thing_126 ?_
    refine a_aload_n dX11_thing_127 0 rfl rfl ?_
    refine a_dup dX11_thing_128 rfl ?_
    refine a_getI hZ.1 (s 60 0 47) (hZ.2 60 0 (by decide) (by decide) Nat.one_pos) fl_X11_326 rfl rfl dX11_thing_129 ?_
    refine a_iconst (v := (1 : Int32)) dX11_thing_132 (by decide) ?_
    refine a_iadd dX11_thing_133 ?_
    refine a_put hZ.1 (hZ.2 60 0 (by decide) (by decide) Nat.one_pos) fl_X11_326 rfl rfl rfl dX11_thing_134 ?_
    refine a_aload_n dX11_thing_137 0 rfl rfl ?_
    refine a_getI hZ.1 ((s 60 0 47) + (1 : Int32)) (hZ.2 60 0 (by decide) (by decide) Nat.one_pos) fl_X11_326 rfl (by simp [up]) dX11_thing_138 ?_
    refine a_iconst (v := (1 : Int32)) dX11_thing_141 (by decide) ?_
    refine a_isub dX11_thing_142 ?_
    replace hF := Option.some.inj hF
    subst hF
    exact a_iret rfl (Nat.zero_le _) (Nat.zero_le _) dX11_thing_143 ⟨rfl, rfl⟩
  · replace hF := (if_pos q1).symm.trans hF
    refine a_ldc (v := (-1000003)) kw_1176 dX11_thing_94 ?_
    replace hF := Option.some.inj hF
    subst hF
    exact a_iret rfl (Nat.zero_le _) (Nat.zero_le _) dX11_thing_96 ⟨rfl, rfl⟩
set_option maxRecDepth 100000 in
set_option maxHeartbeats 4000000 in
theorem w_X11_thing_57 {Z : ZE} {l : Launch} (hZ : OkM Z) {a1 : Int32} {a2 : Int32} {a3 : Int32}  {R : Int32 × St}  (v4 : Int32)  (s : St) (hF : F_X11_thing_57 (zg Z) a1 a2 a3 v4 s = some R) : AW Z l iX11_thing (Pq (rI R)) 0 0 57 [(0, .ref (za Z 60 0)), (1, .int a1), (2, .int a2), (3, .int a3), (4, .int v4)] [] s := by
  unfold F_X11_thing_57 at hF
  refine a_iload dX11_thing_57 4 rfl ?_
  refine a_if_eq 85 dX11_thing_59 (by decide) (fun q1 => ?_) (fun q1 => ?_)
  · replace hF := (if_pos q1).symm.trans hF
    refine a_loc [(0, .ref (za Z 60 0)), (1, .int a1), (2, .int a2), (3, .int a3)] [0, 1, 2, 3] rfl ?_
    exact w_X11_thing_85 (l := l) hZ     _ hF
  · replace hF := (if_neg q1).symm.trans hF
    refine a_aload_n dX11_thing_62 0 rfl rfl ?_
    refine a_iload_n dX11_thing_63 3 rfl rfl ?_
    obtain ⟨r64, s64, e64, hF⟩ := bd_some hF
    refine a_invV hZ.1 (As := [.int a3]) (rest := []) (hZ.2 60 0 (by decide) (by decide) Nat.one_pos) lk_X11_329 ⟨⟨by decide, by decide⟩, by decide, by decide⟩ rfl (Nat.le_of_ble_eq_true rfl) dX11_thing_64 (m_X11_isThing hZ  e64) ?_
    show AW Z l iX11_thing (Pq (rI R)) 0 0 67 [(0, .ref (za Z 60 0)), (1, .int a1), (2, .int a2), (3, .int a3), (4, .int v4)] [.int r64] s64
    refine a_if_eq 82 dX11_thing_67 (by decide) (fun q2 => ?_) (fun q2 => ?_)
    · replace hF := (if_pos q2).symm.trans hF
      refine a_ldc (v := (-1000001)) kw_1136 dX11_thing_82 ?_
      replace hF := Option.some.inj hF
      subst hF
      exact a_iret rfl (Nat.zero_le _) (Nat.zero_le _) dX11_thing_84 ⟨rfl, rfl⟩
    · replace hF := (if_neg q2).symm.trans hF
      refine a_aload_n dX11_thing_70 0 rfl rfl ?_
      refine a_getR hZ.1 (hZ.2 60 0 (by decide) (by decide) Nat.one_pos) fl_X11_103 rfl 0 rfl dX11_thing_71 ?_
      refine a_iload_n dX11_thing_74 3 rfl rfl ?_
      obtain ⟨p3, hF⟩ := gd_some hF
      refine a_iald hZ.1 (s64 88 0 a3.toNatClampNeg) (hZ.2 88 0 (by decide) (by decide) Nat.one_pos) rfl rfl (inb_vp p3) rfl dX11_thing_75 ?_
      refine a_iload_n dX11_thing_76 1 rfl rfl ?_
      refine a_iconst (v := (1 : Int32)) dX11_thing_77 (by decide) ?_
      refine a_isub dX11_thing_78 ?_
      refine a_icmp_eq 85 dX11_thing_79 (by decide) (fun q4 => ?_) (fun q4 => ?_)
      · replace hF := (if_pos q4).symm.trans hF
        refine a_loc [(0, .ref (za Z 60 0)), (1, .int a1), (2, .int a2), (3, .int a3)] [0, 1, 2, 3] rfl ?_
        exact w_X11_thing_85 (l := l) hZ     _ hF
      · replace hF := (if_neg q4).symm.trans hF
        refine a_ldc (v := (-1000001)) kw_1136 dX11_thing_82 ?_
        replace hF := Option.some.inj hF
        subst hF
        exact a_iret rfl (Nat.zero_le _) (Nat.zero_le _) dX11_thing_84 ⟨rfl, rfl⟩
set_option maxRecDepth 100000 in
set_option maxHeartbeats 4000000 in
theorem w_X11_thing_20 {Z : ZE} {l : Launch} (hZ : OkM Z) {a1 : Int32} {a2 : Int32} {a3 : Int32}  {R : Int32 × St}  (x0 : Int32)  (s : St) (hF : F_X11_thing_20 (zg Z) a1 a2 a3 x0 s = some R) : AW Z l iX11_thing (Pq (rI R)) 0 0 20 [(0, .ref (za Z 60 0)), (1, .int a1), (2, .int a2), (3, .int a3)] [.int x0] s := by
  unfold F_X11_thing_20 at hF
  refine a_istore [(4, .int x0), (0, .ref (za Z 60 0)), (1, .int a1), (2, .int a2), (3, .int a3)] dX11_thing_20 (by decide) rfl ?_
  refine a_iload_n dX11_thing_22 2 rfl rfl ?_
  refine a_i2l dX11_thing_23 ?_
  refine a_lconst (v := (0 : Int64)) dX11_thing_24 (by decide) ?_
  refine a_ldc2 (v := (5 : Int64)) kw_1247 dX11_thing_25 ?_
  obtain ⟨r28, s28, e28, hF⟩ := bd_some hF
  refine a_invS hZ.1 (As := [.long a1.toInt64, .long (0 : Int64), .long (5 : Int64)]) (rest := []) lk_X11_126 ⟨⟨by decide, by decide⟩, by decide, by decide⟩ rfl (Nat.le_of_ble_eq_true rfl) dX11_thing_28 (m_X11_in hZ  e28) ?_
  show AW Z l iX11_thing (Pq (rI R)) 0 0 31 [(4, .int x0), (0, .ref (za Z 60 0)), (1, .int a1), (2, .int a2), (3, .int a3)] [.int r28] s28
  refine a_if_eq 82 dX11_thing_31 (by decide) (fun q1 => ?_) (fun q1 => ?_)
  · replace hF := (if_pos q1).symm.trans hF
    refine a_ldc (v := (-1000001)) kw_1136 dX11_thing_82 ?_
    replace hF := Option.some.inj hF
    subst hF
    exact a_iret rfl (Nat.zero_le _) (Nat.zero_le _) dX11_thing_84 ⟨rfl, rfl⟩
  · replace hF := (if_neg q1).symm.trans hF
    refine a_iload_n dX11_thing_34 3 rfl rfl ?_
    refine a_i2l dX11_thing_35 ?_
    refine a_lconst (v := (0 : Int64)) dX11_thing_36 (by decide) ?_
    refine a_ldc2 (v := (999 : Int64)) kw_1330 dX11_thing_37 ?_
    obtain ⟨r40, s40, e40, hF⟩ := bd_some hF
    refine a_invS hZ.1 (As := [.long a2.toInt64, .long (0 : Int64), .long (999 : Int64)]) (rest := []) lk_X11_126 ⟨⟨by decide, by decide⟩, by decide, by decide⟩ rfl (Nat.le_of_ble_eq_true rfl) dX11_thing_40 (m_X11_in hZ  e40) ?_
    show AW Z l iX11_thing (Pq (rI R)) 0 0 43 [(4, .int x0), (0, .ref (za Z 60 0)), (1, .int a1), (2, .int a2), (3, .int a3)] [.int r40] s40
    refine a_if_eq 82 dX11_thing_43 (by decide) (fun q2 => ?_) (fun q2 => ?_)
    · replace hF := (if_pos q2).symm.trans hF
      refine a_ldc (v := (-1000001)) kw_1136 dX11_thing_82 ?_
      replace hF := Option.some.inj hF
      subst hF
      exact a_iret rfl (Nat.zero_le _) (Nat.zero_le _) dX11_thing_84 ⟨rfl, rfl⟩
    · replace hF := (if_neg q2).symm.trans hF
      refine a_iload dX11_thing_46 0 rfl ?_
      refine a_if_ne 57 dX11_thing_48 (by decide) (fun q3 => ?_) (fun q3 => ?_)
      · replace hF := (if_neg q3).symm.trans hF
        refine a_loc [(0, .ref (za Z 60 0)), (1, .int a1), (2, .int a2), (3, .int a3), (4, .int x0)] [1, 2, 3, 4, 0] rfl ?_
        exact w_X11_thing_57 (l := l) hZ   x0  _ hF
      · replace hF := (if_pos q3).symm.trans hF
        refine a_iload_n dX11_thing_51 4 rfl rfl ?_
        refine a_ldc (v := (-1000000)) kw_951 dX11_thing_52 ?_
        refine a_icmp_ne 82 dX11_thing_54 (by decide) (fun q4 => ?_) (fun q4 => ?_)
        · replace hF := (if_neg q4).symm.trans hF
          refine a_ldc (v := (-1000001)) kw_1136 dX11_thing_82 ?_
          replace hF := Option.some.inj hF
          subst hF
          exact a_iret rfl (Nat.zero_le _) (Nat.zero_le _) dX11_thing_84 ⟨rfl, rfl⟩
        · replace hF := (if_pos q4).symm.trans hF
          refine a_loc [(0, .ref (za Z 60 0)), (1, .int a1), (2, .int a2), (3, .int a3), (4, .int x0)] [1, 2, 3, 4, 0] rfl ?_
          exact w_X11_thing_57 (l := l) hZ   x0  _ hF
set_option maxRecDepth 100000 in
set_option maxHeartbeats 4000000 in
theorem w_X11_thing_15 {Z : ZE} {l : Launch} (hZ : OkM Z) {a1 : Int32} {a2 : Int32} {a3 : Int32}  {R : Int32 × St}    (s : St) (hF : F_X11_thing_15 (zg Z) a1 a2 a3  s = some R) : AW Z l iX11_thing (Pq (rI R)) 0 0 15 [(0, .ref (za Z 60 0)), (1, .int a1), (2, .int a2), (3, .int a3)] [] s := by
  unfold F_X11_thing_15 at hF
  refine a_iconst (v := (1 : Int32)) dX11_thing_15 (by decide) ?_
  refine a_goto 20 dX11_thing_16 (by decide) ?_
  exact w_X11_thing_20 (l := l) hZ   (1 : Int32)  _ hF
set_option maxRecDepth 100000 in
set_option maxHeartbeats 4000000 in
theorem w_X11_thing {Z : ZE} {l : Launch} (hZ : OkM Z) {a1 : Int32} {a2 : Int32} {a3 : Int32}  {R : Int32 × St}    (s : St) (hF : F_X11_thing (zg Z) a1 a2 a3  s = some R) : AW Z l iX11_thing (Pq (rI R)) 0 0 0 [(0, .ref (za Z 60 0)), (1, .int a1), (2, .int a2), (3, .int a3)] [] s := by
  unfold F_X11_thing at hF
  refine a_aload_n dX11_thing_0 0 rfl rfl ?_
  refine a_iconst (v := (0 : Int32)) dX11_thing_1 (by decide) ?_
  refine a_put hZ.1 (hZ.2 60 0 (by decide) (by decide) Nat.one_pos) fl_X11_1 rfl rfl rfl dX11_thing_2 ?_
  refine a_iload_n dX11_thing_5 1 rfl rfl ?_
  refine a_iconst (v := (2 : Int32)) dX11_thing_6 (by decide) ?_
  refine a_icmp_eq 15 dX11_thing_7 (by decide) (fun q1 => ?_) (fun q1 => ?_)
  · replace hF := (if_pos q1).symm.trans hF
    exact w_X11_thing_15 (l := l) hZ     _ hF
  · replace hF := (if_neg q1).symm.trans hF
    refine a_iload_n dX11_thing_10 1 rfl rfl ?_
    refine a_iconst (v := (3 : Int32)) dX11_thing_11 (by decide) ?_
    refine a_icmp_ne 19 dX11_thing_12 (by decide) (fun q2 => ?_) (fun q2 => ?_)
    · replace hF := (if_neg q2).symm.trans hF
      refine a_iconst (v := (0 : Int32)) dX11_thing_19 (by decide) ?_
      exact w_X11_thing_20 (l := l) hZ   (0 : Int32)  _ hF
    · replace hF := (if_pos q2).symm.trans hF
      exact w_X11_thing_15 (l := l) hZ     _ hF
theorem m_X11_thing {Z : ZE} {l : Launch} (hZ : OkM Z) {a1 : Int32} {a2 : Int32} {a3 : Int32}  {s : St} {R : Int32 × St} (hF : F_X11_thing (zg Z) a1 a2 a3 s = some R) : Sp Z l yX11_thing iX11_thing [.ref (za Z 60 0), .int a1, .int a2, .int a3] s (rI R) :=
  Sp.of (by decide) rfl (Nat.le_of_ble_eq_true rfl) (w_X11_thing hZ  s hF)
-- X11_told
set_option maxRecDepth 100000 in
set_option maxHeartbeats 4000000 in
theorem w_X11_told_69 {Z : ZE} {l : Launch} (hZ : OkM Z) {a1 : Int32} {a2 : Int32}  {R : Int32 × St} (h39_ : Int32 → Int32 → St → Option (Int32 × St)) (w39_ : ∀ (v3 : Int32) (v4 : Int32)  (s : St), h39_ v3 v4 s = some R → AW Z l iX11_told (Pq (rI R)) 0 0 39 [(0, .ref (za Z 60 0)), (1, .int a1), (3, .int v3), (4, .int v4)] [] s) (v4 : Int32) (x0 : Int32) (x1 : Int32)  (s : St) (hF : F_X11_told_69 (zg Z) a1 a2 h39_ v4 x0 x1 s = some R) : AW Z l iX11_told (Pq (rI R)) 0 0 69 [(0, .ref (za Z 60 0)), (1, .int a1), (4, .int v4)] [.int x1, .int x0] s := by
  unfold F_X11_told_69 at hF
  refine a_iadd dX11_told_69 ?_
  refine a_istore_n [(3, .int (x0 + x1)), (0, .ref (za Z 60 0)), (1, .int a1), (4, .int v4)] dX11_told_70 rfl (by decide) rfl ?_
  refine a_iinc [(4, .int (v4 + 1)), (3, .int (x0 + x1)), (0, .ref (za Z 60 0)), (1, .int a1)] dX11_told_71 3 rfl rfl (by decide) rfl ?_
  refine a_goto 39 dX11_told_74 (by decide) ?_
  refine a_loc [(0, .ref (za Z 60 0)), (1, .int a1), (3, .int (x0 + x1)), (4, .int (v4 + 1))] [2, 3, 1, 0] rfl ?_
  exact w39_ (x0 + x1) (v4 + 1)  _ hF
set_option maxRecDepth 100000 in
set_option maxHeartbeats 4000000 in
theorem w_X11_told_39 {Z : ZE} {l : Launch} (hZ : OkM Z) {a1 : Int32} {a2 : Int32}  {R : Int32 × St}  : ∀ (n_ : Nat) (v3 : Int32) (v4 : Int32)  (s : St), F_X11_told_39 (zg Z) a1 a2 n_ v3 v4 s = some R → AW Z l iX11_told (Pq (rI R)) 0 0 39 [(0, .ref (za Z 60 0)), (1, .int a1), (3, .int v3), (4, .int v4)] [] s := by
  intro n_
  induction n_ with
  | zero =>
    intro v3 v4 s hF
    exact absurd hF (by rw [F_X11_told_39]; exact fun q => by cases q)
  | succ n_ w39_ =>
    intro v3 v4 s hF
    rw [F_X11_told_39] at hF
    refine a_iload dX11_told_39 3 rfl ?_
    refine a_bipush (v := (100 : Int32)) dX11_told_41 (by decide) ?_
    refine a_icmp_ge 77 dX11_told_43 (by decide) (fun q1 => ?_) (fun q1 => ?_)
    · replace hF := (if_pos q1).symm.trans hF
      refine a_iload_n dX11_told_77 2 rfl rfl ?_
      replace hF := Option.some.inj hF
      subst hF
      exact a_iret rfl (Nat.zero_le _) (Nat.zero_le _) dX11_told_78 ⟨rfl, rfl⟩
    · replace hF := (if_neg q1).symm.trans hF
      refine a_iload_n dX11_told_46 2 rfl rfl ?_
      refine a_aload_n dX11_told_47 0 rfl rfl ?_
      refine a_getR hZ.1 (hZ.2 60 0 (by decide) (by decide) Nat.one_pos) fl_X11_66 rfl 0 rfl dX11_told_48 ?_
      refine a_bipush (v := (100 : Int32)) dX11_told_51 (by decide) ?_
      refine a_iload_n dX11_told_53 1 rfl rfl ?_
      refine a_imul dX11_told_54 ?_
      refine a_iload dX11_told_55 3 rfl ?_
      refine a_iadd dX11_told_57 ?_
      obtain ⟨p2, hF⟩ := gd_some hF
      refine a_iald hZ.1 (s 76 0 (((100 : Int32) * a1) + v4).toNatClampNeg) (hZ.2 76 0 (by decide) (by decide) Nat.one_pos) rfl rfl (inb_vp p2) rfl dX11_told_58 ?_
      refine a_ldc (v := (-1000000)) kw_951 dX11_told_59 ?_
      refine a_icmp_eq 68 dX11_told_61 (by decide) (fun q3 => ?_) (fun q3 => ?_)
      · replace hF := (if_pos q3).symm.trans hF
        refine a_iconst (v := (0 : Int32)) dX11_told_68 (by decide) ?_
        refine a_loc [(0, .ref (za Z 60 0)), (1, .int a1), (4, .int v4)] [0, 1, 3] rfl ?_
        exact w_X11_told_69 (l := l) hZ  (F_X11_told_39 (zg Z) a1 a2 n_) w39_ v4 v3 (0 : Int32)  _ hF
      · replace hF := (if_neg q3).symm.trans hF
        refine a_iconst (v := (1 : Int32)) dX11_told_64 (by decide) ?_
        refine a_goto 69 dX11_told_65 (by decide) ?_
        refine a_loc [(0, .ref (za Z 60 0)), (1, .int a1), (4, .int v4)] [0, 1, 3] rfl ?_
        exact w_X11_told_69 (l := l) hZ  (F_X11_told_39 (zg Z) a1 a2 n_) w39_ v4 v3 (1 : Int32)  _ hF
set_option maxRecDepth 100000 in
set_option maxHeartbeats 4000000 in
theorem w_X11_told {Z : ZE} {l : Launch} (hZ : OkM Z) {a1 : Int32} {a2 : Int32}  {R : Int32 × St}    (s : St) (hF : F_X11_told (zg Z) a1 a2  s = some R) : AW Z l iX11_told (Pq (rI R)) 0 0 0 [(0, .ref (za Z 60 0)), (1, .int a1), (2, .int a2)] [] s := by
  unfold F_X11_told at hF
  refine a_aload_n dX11_told_0 0 rfl rfl ?_
  refine a_iconst (v := (0 : Int32)) dX11_told_1 (by decide) ?_
  refine a_put hZ.1 (hZ.2 60 0 (by decide) (by decide) Nat.one_pos) fl_X11_1 rfl rfl rfl dX11_told_2 ?_
  refine a_aload_n dX11_told_5 0 rfl rfl ?_
  refine a_iload_n dX11_told_6 1 rfl rfl ?_
  obtain ⟨r7, s7, e7, hF⟩ := bd_some hF
  refine a_invV hZ.1 (As := [.int a1]) (rest := []) (hZ.2 60 0 (by decide) (by decide) Nat.one_pos) lk_X11_177 ⟨⟨by decide, by decide⟩, by decide, by decide⟩ rfl (Nat.le_of_ble_eq_true rfl) dX11_told_7 (m_X11_isMill hZ  e7) ?_
  show AW Z l iX11_told (Pq (rI R)) 0 0 10 [(0, .ref (za Z 60 0)), (1, .int a1), (2, .int a2)] [.int r7] s7
  refine a_if_eq 25 dX11_told_10 (by decide) (fun q1 => ?_) (fun q1 => ?_)
  · replace hF := (if_pos q1).symm.trans hF
    refine a_ldc (v := (-1000001)) kw_1136 dX11_told_25 ?_
    replace hF := Option.some.inj hF
    subst hF
    exact a_iret rfl (Nat.zero_le _) (Nat.zero_le _) dX11_told_27 ⟨rfl, rfl⟩
  · replace hF := (if_neg q1).symm.trans hF
    refine a_iload_n dX11_told_13 2 rfl rfl ?_
    refine a_i2l dX11_told_14 ?_
    refine a_lconst (v := (0 : Int64)) dX11_told_15 (by decide) ?_
    refine a_ldc2 (v := (9 : Int64)) kw_1195 dX11_told_16 ?_
    obtain ⟨r19, s19, e19, hF⟩ := bd_some hF
    refine a_invS hZ.1 (As := [.long a2.toInt64, .long (0 : Int64), .long (9 : Int64)]) (rest := []) lk_X11_126 ⟨⟨by decide, by decide⟩, by decide, by decide⟩ rfl (Nat.le_of_ble_eq_true rfl) dX11_told_19 (m_X11_in hZ  e19) ?_
    show AW Z l iX11_told (Pq (rI R)) 0 0 22 [(0, .ref (za Z 60 0)), (1, .int a1), (2, .int a2)] [.int r19] s19
    refine a_if_ne 28 dX11_told_22 (by decide) (fun q2 => ?_) (fun q2 => ?_)
    · replace hF := (if_neg q2).symm.trans hF
      refine a_iload_n dX11_told_28 2 rfl rfl ?_
      refine a_bipush (v := (9 : Int32)) dX11_told_29 (by decide) ?_
      refine a_icmp_ne 79 dX11_told_31 (by decide) (fun q3 => ?_) (fun q3 => ?_)
      · replace hF := (if_neg q3).symm.trans hF
        refine a_iload_n dX11_told_79 2 rfl rfl ?_
        refine a_if_ne 92 dX11_told_80 (by decide) (fun q4 => ?_) (fun q4 => ?_)
        · replace hF := (if_neg q4).symm.trans hF
          refine a_iload_n dX11_told_92 2 rfl rfl ?_
          refine a_iconst (v := (1 : Int32)) dX11_told_93 (by decide) ?_
          refine a_icmp_ne 106 dX11_told_94 (by decide) (fun q5 => ?_) (fun q5 => ?_)
          · replace hF := (if_neg q5).symm.trans hF
            refine a_iload_n dX11_told_106 2 rfl rfl ?_
            refine a_iconst (v := (2 : Int32)) dX11_told_107 (by decide) ?_
            refine a_icmp_ne 120 dX11_told_108 (by decide) (fun q6 => ?_) (fun q6 => ?_)
            · replace hF := (if_neg q6).symm.trans hF
              refine a_iload_n dX11_told_120 2 rfl rfl ?_
              refine a_iconst (v := (3 : Int32)) dX11_told_121 (by decide) ?_
              refine a_icmp_ne 134 dX11_told_122 (by decide) (fun q7 => ?_) (fun q7 => ?_)
              · replace hF := (if_neg q7).symm.trans hF
                refine a_iload_n dX11_told_134 2 rfl rfl ?_
                refine a_bipush (v := (8 : Int32)) dX11_told_135 (by decide) ?_
                refine a_icmp_ne 149 dX11_told_137 (by decide) (fun q8 => ?_) (fun q8 => ?_)
                · replace hF := (if_neg q8).symm.trans hF
                  refine a_aload_n dX11_told_149 0 rfl rfl ?_
                  refine a_getR hZ.1 (hZ.2 60 0 (by decide) (by decide) Nat.one_pos) fl_X11_60 rfl 0 rfl dX11_told_150 ?_
                  refine a_iconst (v := (4 : Int32)) dX11_told_153 (by decide) ?_
                  refine a_iload_n dX11_told_154 1 rfl rfl ?_
                  refine a_imul dX11_told_155 ?_
                  refine a_iload_n dX11_told_156 2 rfl rfl ?_
                  refine a_iadd dX11_told_157 ?_
                  refine a_iconst (v := (4 : Int32)) dX11_told_158 (by decide) ?_
                  refine a_isub dX11_told_159 ?_
                  obtain ⟨p9, hF⟩ := gd_some hF
                  refine a_iald hZ.1 (s19 74 0 ((((4 : Int32) * a1) + a2) - (4 : Int32)).toNatClampNeg) (hZ.2 74 0 (by decide) (by decide) Nat.one_pos) rfl rfl (inb_vp p9) rfl dX11_told_160 ?_
                  replace hF := Option.some.inj hF
                  subst hF
                  exact a_iret rfl (Nat.zero_le _) (Nat.zero_le _) dX11_told_161 ⟨rfl, rfl⟩
                · replace hF := (if_pos q8).symm.trans hF
                  refine a_aload_n dX11_told_140 0 rfl rfl ?_
                  refine a_getR hZ.1 (hZ.2 60 0 (by decide) (by decide) Nat.one_pos) fl_X11_63 rfl 0 rfl dX11_told_141 ?_
                  refine a_iload_n dX11_told_144 1 rfl rfl ?_
                  obtain ⟨p10, hF⟩ := gd_some hF
                  refine a_iald hZ.1 (s19 75 0 a1.toNatClampNeg) (hZ.2 75 0 (by decide) (by decide) Nat.one_pos) rfl rfl (inb_vp p10) rfl dX11_told_145 ?_
                  refine a_goto 161 dX11_told_146 (by decide) ?_
                  replace hF := Option.some.inj hF
                  subst hF
                  exact a_iret rfl (Nat.zero_le _) (Nat.zero_le _) dX11_told_161 ⟨rfl, rfl⟩
              · replace hF := (if_pos q7).symm.trans hF
                refine a_aload_n dX11_told_125 0 rfl rfl ?_
                refine a_getR hZ.1 (hZ.2 60 0 (by decide) (by decide) Nat.one_pos) fl_X11_57 rfl 0 rfl dX11_told_126 ?_
                refine a_iload_n dX11_told_129 1 rfl rfl ?_
                obtain ⟨p11, hF⟩ := gd_some hF
                refine a_iald hZ.1 (s19 73 0 a1.toNatClampNeg) (hZ.2 73 0 (by decide) (by decide) Nat.one_pos) rfl rfl (inb_vp p11) rfl dX11_told_130 ?_
                refine a_goto 161 dX11_told_131 (by decide) ?_
                replace hF := Option.some.inj hF
                subst hF
                exact a_iret rfl (Nat.zero_le _) (Nat.zero_le _) dX11_told_161 ⟨rfl, rfl⟩
            · replace hF := (if_pos q6).symm.trans hF
              refine a_aload_n dX11_told_111 0 rfl rfl ?_
              refine a_getR hZ.1 (hZ.2 60 0 (by decide) (by decide) Nat.one_pos) fl_X11_54 rfl 0 rfl dX11_told_112 ?_
              refine a_iload_n dX11_told_115 1 rfl rfl ?_
              obtain ⟨p12, hF⟩ := gd_some hF
              refine a_iald hZ.1 (s19 72 0 a1.toNatClampNeg) (hZ.2 72 0 (by decide) (by decide) Nat.one_pos) rfl rfl (inb_vp p12) rfl dX11_told_116 ?_
              refine a_goto 161 dX11_told_117 (by decide) ?_
              replace hF := Option.some.inj hF
              subst hF
              exact a_iret rfl (Nat.zero_le _) (Nat.zero_le _) dX11_told_161 ⟨rfl, rfl⟩
          · replace hF := (if_pos q5).symm.trans hF
            refine a_aload_n dX11_told_97 0 rfl rfl ?_
            refine a_getR hZ.1 (hZ.2 60 0 (by decide) (by decide) Nat.one_pos) fl_X11_51 rfl 0 rfl dX11_told_98 ?_
            refine a_iload_n dX11_told_101 1 rfl rfl ?_
            obtain ⟨p13, hF⟩ := gd_some hF
            refine a_iald hZ.1 (s19 71 0 a1.toNatClampNeg) (hZ.2 71 0 (by decide) (by decide) Nat.one_pos) rfl rfl (inb_vp p13) rfl dX11_told_102 ?_
            refine a_goto 161 dX11_told_103 (by decide) ?_
            replace hF := Option.some.inj hF
            subst hF
            exact a_iret rfl (Nat.zero_le _) (Nat.zero_le _) dX11_told_161 ⟨rfl, rfl⟩
        · replace hF := (if_pos q4).symm.trans hF
          refine a_aload_n dX11_told_83 0 rfl rfl ?_
          refine a_getR hZ.1 (hZ.2 60 0 (by decide) (by decide) Nat.one_pos) fl_X11_48 rfl 0 rfl dX11_told_84 ?_
          refine a_iload_n dX11_told_87 1 rfl rfl ?_
          obtain ⟨p14, hF⟩ := gd_some hF
          refine a_iald hZ.1 (s19 70 0 a1.toNatClampNeg) (hZ.2 70 0 (by decide) (by decide) Nat.one_pos) rfl rfl (inb_vp p14) rfl dX11_told_88 ?_
          refine a_goto 161 dX11_told_89 (by decide) ?_
          replace hF := Option.some.inj hF
          subst hF
          exact a_iret rfl (Nat.zero_le _) (Nat.zero_le _) dX11_told_161 ⟨rfl, rfl⟩
      · replace hF := (if_pos q3).symm.trans hF
        refine a_iconst (v := (0 : Int32)) dX11_told_34 (by decide) ?_
        refine a_istore_n [(3, .int (0 : Int32)), (0, .ref (za Z 60 0)), (1, .int a1), (2, .int a2)] dX11_told_35 rfl (by decide) rfl ?_
        refine a_iconst (v := (0 : Int32)) dX11_told_36 (by decide) ?_
        refine a_istore [(4, .int (0 : Int32)), (3, .int (0 : Int32)), (0, .ref (za Z 60 0)), (1, .int a1), (2, .int a2)] dX11_told_37 (by decide) rfl ?_
        refine a_loc [(0, .ref (za Z 60 0)), (1, .int a1), (3, .int (0 : Int32)), (4, .int (0 : Int32))] [2, 3, 1, 0] rfl ?_
        exact w_X11_told_39 (l := l) hZ   fu (0 : Int32) (0 : Int32)  _ hF
    · replace hF := (if_pos q2).symm.trans hF
      refine a_ldc (v := (-1000001)) kw_1136 dX11_told_25 ?_
      replace hF := Option.some.inj hF
      subst hF
      exact a_iret rfl (Nat.zero_le _) (Nat.zero_le _) dX11_told_27 ⟨rfl, rfl⟩
theorem m_X11_told {Z : ZE} {l : Launch} (hZ : OkM Z) {a1 : Int32} {a2 : Int32}  {s : St} {R : Int32 × St} (hF : F_X11_told (zg Z) a1 a2 s = some R) : Sp Z l yX11_told iX11_told [.ref (za Z 60 0), .int a1, .int a2] s (rI R) :=
  Sp.of (by decide) rfl (Nat.le_of_ble_eq_true rfl) (w_X11_told hZ  s hF)
-- X11_trace
set_option maxRecDepth 100000 in
set_option maxHeartbeats 4000000 in
theorem w_X11_trace {Z : ZE} {l : Launch} (hZ : OkM Z) {a1 : Int32}  {R : Int32 × St}    (s : St) (hF : F_X11_trace (zg Z) a1  s = some R) : AW Z l iX11_trace (Pq (rI R)) 0 0 0 [(0, .ref (za Z 60 0)), (1, .int a1)] [] s := by
  unfold F_X11_trace at hF
  refine a_aload_n dX11_trace_0 0 rfl rfl ?_
  refine a_iconst (v := (0 : Int32)) dX11_trace_1 (by decide) ?_
  refine a_put hZ.1 (hZ.2 60 0 (by decide) (by decide) Nat.one_pos) fl_X11_1 rfl rfl rfl dX11_trace_2 ?_
  refine a_iload_n dX11_trace_5 1 rfl rfl ?_
  refine a_i2l dX11_trace_6 ?_
  refine a_lconst (v := (0 : Int64)) dX11_trace_7 (by decide) ?_
  refine a_aload_n dX11_trace_8 0 rfl rfl ?_
  refine a_getI hZ.1 (s 60 0 56) (hZ.2 60 0 (by decide) (by decide) Nat.one_pos) fl_X11_341 rfl (by simp [up]) dX11_trace_9 ?_
  refine a_iconst (v := (1 : Int32)) dX11_trace_12 (by decide) ?_
  refine a_isub dX11_trace_13 ?_
  refine a_i2l dX11_trace_14 ?_
  obtain ⟨r15, s15, e15, hF⟩ := bd_some hF
  refine a_invS hZ.1 (As := [.long a1.toInt64, .long (0 : Int64), .long ((s 60 0 56) - (1 : Int32)).toInt64]) (rest := []) lk_X11_126 ⟨⟨by decide, by decide⟩, by decide, by decide⟩ rfl (Nat.le_of_ble_eq_true rfl) dX11_trace_15 (m_X11_in hZ  e15) ?_
  show AW Z l iX11_trace (Pq (rI R)) 0 0 18 [(0, .ref (za Z 60 0)), (1, .int a1)] [.int r15] s15
  refine a_if_eq 30 dX11_trace_18 (by decide) (fun q1 => ?_) (fun q1 => ?_)
  · replace hF := (if_pos q1).symm.trans hF
    refine a_ldc (v := (-1000000)) kw_951 dX11_trace_30 ?_
    replace hF := Option.some.inj hF
    subst hF
    exact a_iret rfl (Nat.zero_le _) (Nat.zero_le _) dX11_trace_32 ⟨rfl, rfl⟩
  · replace hF := (if_neg q1).symm.trans hF
    refine a_aload_n dX11_trace_21 0 rfl rfl ?_
    refine a_getR hZ.1 (hZ.2 60 0 (by decide) (by decide) Nat.one_pos) fl_X11_121 rfl 0 rfl dX11_trace_22 ?_
    refine a_iload_n dX11_trace_25 1 rfl rfl ?_
    obtain ⟨p2, hF⟩ := gd_some hF
    refine a_iald hZ.1 (s15 94 0 a1.toNatClampNeg) (hZ.2 94 0 (by decide) (by decide) Nat.one_pos) rfl rfl (inb_vp p2) rfl dX11_trace_26 ?_
    refine a_goto 32 dX11_trace_27 (by decide) ?_
    replace hF := Option.some.inj hF
    subst hF
    exact a_iret rfl (Nat.zero_le _) (Nat.zero_le _) dX11_trace_32 ⟨rfl, rfl⟩
theorem m_X11_trace {Z : ZE} {l : Launch} (hZ : OkM Z) {a1 : Int32}  {s : St} {R : Int32 × St} (hF : F_X11_trace (zg Z) a1 s = some R) : Sp Z l yX11_trace iX11_trace [.ref (za Z 60 0), .int a1] s (rI R) :=
  Sp.of (by decide) rfl (Nat.le_of_ble_eq_true rfl) (w_X11_trace hZ  s hF)
-- X11_works
set_option maxRecDepth 100000 in
set_option maxHeartbeats 4000000 in
theorem w_X11_works_285 {Z : ZE} {l : Launch} (hZ : OkM Z) {a1 : Int32} {a2 : Int32} {a3 : Int32} {a4 : Int32} {a5 : Int32}  {R : Int32 × St}  (v8 : Int32) (v9 : Int32) (v10 : Int32)  (s : St) (hF : F_X11_works_285 (zg Z) a1 a2 a3 a4 a5 v8 v9 v10 s = some R) : AW Z l iX11_works (Pq (rI R)) 0 0 285 [(5, .int a5), (8, .int v8), (9, .int v9), (10, .int v10)] [] s := by
  unfold F_X11_works_285 at hF
  refine a_iload dX11_works_285 0 rfl ?_
  refine a_if_ne 295 dX11_works_287 (by decide) (fun q1 => ?_) (fun q1 => ?_)
  · replace hF := (if_neg q1).symm.trans hF
    refine a_iload dX11_works_295 0 rfl ?_
    refine a_iconst (v := (1 : Int32)) dX11_works_297 (by decide) ?_
    refine a_icmp_ne 306 dX11_works_298 (by decide) (fun q2 => ?_) (fun q2 => ?_)
    · replace hF := (if_neg q2).symm.trans hF
      refine a_iload dX11_works_306 3 rfl ?_
      replace hF := Option.some.inj hF
      subst hF
      exact a_iret rfl (Nat.zero_le _) (Nat.zero_le _) dX11_works_308 ⟨rfl, rfl⟩
    · replace hF := (if_pos q2).symm.trans hF
      refine a_iload dX11_works_301 2 rfl ?_
      refine a_goto 308 dX11_works_303 (by decide) ?_
      replace hF := Option.some.inj hF
      subst hF
      exact a_iret rfl (Nat.zero_le _) (Nat.zero_le _) dX11_works_308 ⟨rfl, rfl⟩
  · replace hF := (if_pos q1).symm.trans hF
    refine a_iload dX11_works_290 1 rfl ?_
    refine a_goto 308 dX11_works_292 (by decide) ?_
    replace hF := Option.some.inj hF
    subst hF
    exact a_iret rfl (Nat.zero_le _) (Nat.zero_le _) dX11_works_308 ⟨rfl, rfl⟩
set_option maxRecDepth 100000 in
set_option maxHeartbeats 4000000 in
theorem w_X11_works_279 {Z : ZE} {l : Launch} (hZ : OkM Z) {a1 : Int32} {a2 : Int32} {a3 : Int32} {a4 : Int32} {a5 : Int32}  {R : Int32 × St} (h163_ : Int32 → Int32 → Int32 → Int32 → Int32 → St → Option (Int32 × St)) (w163_ : ∀ (v7 : Int32) (v8 : Int32) (v9 : Int32) (v10 : Int32) (v11 : Int32)  (s : St), h163_ v7 v8 v9 v10 v11 s = some R → AW Z l iX11_works (Pq (rI R)) 0 0 163 [(0, .ref (za Z 60 0)), (3, .int a3), (4, .int a4), (5, .int a5), (7, .int v7), (8, .int v8), (9, .int v9), (10, .int v10), (11, .int v11)] [] s) (h285_ : Int32 → Int32 → Int32 → St → Option (Int32 × St)) (w285_ : ∀ (v8 : Int32) (v9 : Int32) (v10 : Int32)  (s : St), h285_ v8 v9 v10 s = some R → AW Z l iX11_works (Pq (rI R)) 0 0 285 [(5, .int a5), (8, .int v8), (9, .int v9), (10, .int v10)] [] s) (v7 : Int32) (v8 : Int32) (v9 : Int32) (v10 : Int32) (v11 : Int32)  (s : St) (hF : F_X11_works_279 (zg Z) a1 a2 a3 a4 a5 h163_ h285_ v7 v8 v9 v10 v11 s = some R) : AW Z l iX11_works (Pq (rI R)) 0 0 279 [(0, .ref (za Z 60 0)), (3, .int a3), (4, .int a4), (5, .int a5), (7, .int v7), (8, .int v8), (9, .int v9), (10, .int v10), (11, .int v11)] [] s := by
  unfold F_X11_works_279 at hF
  refine a_iinc [(11, .int (v11 + 1)), (0, .ref (za Z 60 0)), (3, .int a3), (4, .int a4), (5, .int a5), (7, .int v7), (8, .int v8), (9, .int v9), (10, .int v10)] dX11_works_279 8 rfl rfl (by decide) rfl ?_
  refine a_goto 163 dX11_works_282 (by decide) ?_
  refine a_loc [(0, .ref (za Z 60 0)), (3, .int a3), (4, .int a4), (5, .int a5), (7, .int v7), (8, .int v8), (9, .int v9), (10, .int v10), (11, .int (v11 + 1))] [1, 2, 3, 4, 5, 6, 7, 8, 0] rfl ?_
  exact w163_ v7 v8 v9 v10 (v11 + 1)  _ hF
set_option maxRecDepth 100000 in
set_option maxHeartbeats 4000000 in
theorem w_X11_works_267 {Z : ZE} {l : Launch} (hZ : OkM Z) {a1 : Int32} {a2 : Int32} {a3 : Int32} {a4 : Int32} {a5 : Int32}  {R : Int32 × St} (h163_ : Int32 → Int32 → Int32 → Int32 → Int32 → St → Option (Int32 × St)) (w163_ : ∀ (v7 : Int32) (v8 : Int32) (v9 : Int32) (v10 : Int32) (v11 : Int32)  (s : St), h163_ v7 v8 v9 v10 v11 s = some R → AW Z l iX11_works (Pq (rI R)) 0 0 163 [(0, .ref (za Z 60 0)), (3, .int a3), (4, .int a4), (5, .int a5), (7, .int v7), (8, .int v8), (9, .int v9), (10, .int v10), (11, .int v11)] [] s) (h285_ : Int32 → Int32 → Int32 → St → Option (Int32 × St)) (w285_ : ∀ (v8 : Int32) (v9 : Int32) (v10 : Int32)  (s : St), h285_ v8 v9 v10 s = some R → AW Z l iX11_works (Pq (rI R)) 0 0 285 [(5, .int a5), (8, .int v8), (9, .int v9), (10, .int v10)] [] s) (v7 : Int32) (v11 : Int32) (v12 : Int32) (v13 : Int32)  (s : St) (hF : F_X11_works_267 (zg Z) a1 a2 a3 a4 a5 h163_ h285_ v7 v11 v12 v13 s = some R) : AW Z l iX11_works (Pq (rI R)) 0 0 267 [(0, .ref (za Z 60 0)), (3, .int a3), (4, .int a4), (5, .int a5), (7, .int v7), (11, .int v11), (12, .int v12), (13, .int v13)] [] s := by
  unfold F_X11_works_267 at hF
  refine a_iload dX11_works_267 5 rfl ?_
  refine a_istore [(8, .int v11), (0, .ref (za Z 60 0)), (3, .int a3), (4, .int a4), (5, .int a5), (7, .int v7), (11, .int v11), (12, .int v12), (13, .int v13)] dX11_works_269 (by decide) rfl ?_
  refine a_iload dX11_works_271 7 rfl ?_
  refine a_istore [(9, .int v12), (8, .int v11), (0, .ref (za Z 60 0)), (3, .int a3), (4, .int a4), (5, .int a5), (7, .int v7), (11, .int v11), (12, .int v12), (13, .int v13)] dX11_works_273 (by decide) rfl ?_
  refine a_iload dX11_works_275 9 rfl ?_
  refine a_istore [(10, .int v13), (9, .int v12), (8, .int v11), (0, .ref (za Z 60 0)), (3, .int a3), (4, .int a4), (5, .int a5), (7, .int v7), (11, .int v11), (12, .int v12), (13, .int v13)] dX11_works_277 (by decide) rfl ?_
  refine a_loc [(0, .ref (za Z 60 0)), (3, .int a3), (4, .int a4), (5, .int a5), (7, .int v7), (8, .int v11), (9, .int v12), (10, .int v13), (11, .int v11)] [3, 4, 5, 6, 7, 2, 1, 0, 8] rfl ?_
  exact w_X11_works_279 (l := l) hZ  h163_ w163_ h285_ w285_ v7 v11 v12 v13 v11  _ hF
set_option maxRecDepth 100000 in
set_option maxHeartbeats 4000000 in
theorem w_X11_works_239 {Z : ZE} {l : Launch} (hZ : OkM Z) {a1 : Int32} {a2 : Int32} {a3 : Int32} {a4 : Int32} {a5 : Int32}  {R : Int32 × St} (h163_ : Int32 → Int32 → Int32 → Int32 → Int32 → St → Option (Int32 × St)) (w163_ : ∀ (v7 : Int32) (v8 : Int32) (v9 : Int32) (v10 : Int32) (v11 : Int32)  (s : St), h163_ v7 v8 v9 v10 v11 s = some R → AW Z l iX11_works (Pq (rI R)) 0 0 163 [(0, .ref (za Z 60 0)), (3, .int a3), (4, .int a4), (5, .int a5), (7, .int v7), (8, .int v8), (9, .int v9), (10, .int v10), (11, .int v11)] [] s) (h285_ : Int32 → Int32 → Int32 → St → Option (Int32 × St)) (w285_ : ∀ (v8 : Int32) (v9 : Int32) (v10 : Int32)  (s : St), h285_ v8 v9 v10 s = some R → AW Z l iX11_works (Pq (rI R)) 0 0 285 [(5, .int a5), (8, .int v8), (9, .int v9), (10, .int v10)] [] s) (v7 : Int32) (v8 : Int32) (v9 : Int32) (v10 : Int32) (v11 : Int32) (v12 : Int32) (v13 : Int32)  (s : St) (hF : F_X11_works_239 (zg Z) a1 a2 a3 a4 a5 h163_ h285_ v7 v8 v9 v10 v11 v12 v13 s = some R) : AW Z l iX11_works (Pq (rI R)) 0 0 239 [(0, .ref (za Z 60 0)), (3, .int a3), (4, .int a4), (5, .int a5), (7, .int v7), (8, .int v8), (9, .int v9), (10, .int v10), (11, .int v11), (12, .int v12), (13, .int v13)] [] s := by
  unfold F_X11_works_239 at hF
  refine a_iload dX11_works_239 9 rfl ?_
  refine a_iload dX11_works_241 2 rfl ?_
  refine a_icmp_gt 279 dX11_works_243 (by decide) (fun q1 => ?_) (fun q1 => ?_)
  · replace hF := (if_pos q1).symm.trans hF
    refine a_loc [(0, .ref (za Z 60 0)), (3, .int a3), (4, .int a4), (5, .int a5), (7, .int v7), (8, .int v8), (9, .int v9), (10, .int v10), (11, .int v11)] [0, 1, 2, 3, 4, 5, 6, 7, 8] rfl ?_
    exact w_X11_works_279 (l := l) hZ  h163_ w163_ h285_ w285_ v7 v8 v9 v10 v11  _ hF
  · replace hF := (if_neg q1).symm.trans hF
    refine a_iload dX11_works_246 10 rfl ?_
    refine a_iload dX11_works_248 7 rfl ?_
    refine a_icmp_gt 267 dX11_works_250 (by decide) (fun q2 => ?_) (fun q2 => ?_)
    · replace hF := (if_pos q2).symm.trans hF
      refine a_loc [(0, .ref (za Z 60 0)), (3, .int a3), (4, .int a4), (5, .int a5), (7, .int v7), (11, .int v11), (12, .int v12), (13, .int v13)] [0, 1, 2, 3, 4, 8, 9, 10] rfl ?_
      exact w_X11_works_267 (l := l) hZ  h163_ w163_ h285_ w285_ v7 v11 v12 v13  _ hF
    · replace hF := (if_neg q2).symm.trans hF
      refine a_iload dX11_works_253 10 rfl ?_
      refine a_iload dX11_works_255 7 rfl ?_
      refine a_icmp_ne 279 dX11_works_257 (by decide) (fun q3 => ?_) (fun q3 => ?_)
      · replace hF := (if_neg q3).symm.trans hF
        refine a_loc [(0, .ref (za Z 60 0)), (3, .int a3), (4, .int a4), (5, .int a5), (7, .int v7), (8, .int v8), (9, .int v9), (10, .int v10), (11, .int v11)] [0, 1, 2, 3, 4, 5, 6, 7, 8] rfl ?_
        exact w_X11_works_279 (l := l) hZ  h163_ w163_ h285_ w285_ v7 v8 v9 v10 v11  _ hF
      · replace hF := (if_pos q3).symm.trans hF
        refine a_iload dX11_works_260 9 rfl ?_
        refine a_iload dX11_works_262 6 rfl ?_
        refine a_icmp_ge 279 dX11_works_264 (by decide) (fun q4 => ?_) (fun q4 => ?_)
        · replace hF := (if_pos q4).symm.trans hF
          refine a_loc [(0, .ref (za Z 60 0)), (3, .int a3), (4, .int a4), (5, .int a5), (7, .int v7), (8, .int v8), (9, .int v9), (10, .int v10), (11, .int v11)] [0, 1, 2, 3, 4, 5, 6, 7, 8] rfl ?_
          exact w_X11_works_279 (l := l) hZ  h163_ w163_ h285_ w285_ v7 v8 v9 v10 v11  _ hF
        · replace hF := (if_neg q4).symm.trans hF
          refine a_loc [(0, .ref (za Z 60 0)), (3, .int a3), (4, .int a4), (5, .int a5), (7, .int v7), (11, .int v11), (12, .int v12), (13, .int v13)] [0, 1, 2, 3, 4, 8, 9, 10] rfl ?_
          exact w_X11_works_267 (l := l) hZ  h163_ w163_ h285_ w285_ v7 v11 v12 v13  _ hF
set_option maxRecDepth 100000 in
set_option maxHeartbeats 4000000 in
theorem w_X11_works_233 {Z : ZE} {l : Launch} (hZ : OkM Z) {a1 : Int32} {a2 : Int32} {a3 : Int32} {a4 : Int32} {a5 : Int32}  {R : Int32 × St} (h180_ : Int32 → Int32 → Int32 → Int32 → Int32 → Int32 → Int32 → Int32 → St → Option (Int32 × St)) (w180_ : ∀ (v7 : Int32) (v8 : Int32) (v9 : Int32) (v10 : Int32) (v11 : Int32) (v12 : Int32) (v13 : Int32) (v14 : Int32)  (s : St), h180_ v7 v8 v9 v10 v11 v12 v13 v14 s = some R → AW Z l iX11_works (Pq (rI R)) 0 0 180 [(0, .ref (za Z 60 0)), (3, .int a3), (4, .int a4), (5, .int a5), (7, .int v7), (8, .int v8), (9, .int v9), (10, .int v10), (11, .int v11), (12, .int v12), (13, .int v13), (14, .int v14)] [] s) (h239_ : Int32 → Int32 → Int32 → Int32 → Int32 → Int32 → Int32 → St → Option (Int32 × St)) (w239_ : ∀ (v7 : Int32) (v8 : Int32) (v9 : Int32) (v10 : Int32) (v11 : Int32) (v12 : Int32) (v13 : Int32)  (s : St), h239_ v7 v8 v9 v10 v11 v12 v13 s = some R → AW Z l iX11_works (Pq (rI R)) 0 0 239 [(0, .ref (za Z 60 0)), (3, .int a3), (4, .int a4), (5, .int a5), (7, .int v7), (8, .int v8), (9, .int v9), (10, .int v10), (11, .int v11), (12, .int v12), (13, .int v13)] [] s) (v7 : Int32) (v8 : Int32) (v9 : Int32) (v10 : Int32) (v11 : Int32) (v12 : Int32) (v13 : Int32) (v14 : Int32)  (s : St) (hF : F_X11_works_233 (zg Z) a1 a2 a3 a4 a5 h180_ h239_ v7 v8 v9 v10 v11 v12 v13 v14 s = some R) : AW Z l iX11_works (Pq (rI R)) 0 0 233 [(0, .ref (za Z 60 0)), (3, .int a3), (4, .int a4), (5, .int a5), (7, .int v7), (8, .int v8), (9, .int v9), (10, .int v10), (11, .int v11), (12, .int v12), (13, .int v13), (14, .int v14)] [] s := by
  unfold F_X11_works_233 at hF
  refine a_iinc [(14, .int (v14 + 1)), (0, .ref (za Z 60 0)), (3, .int a3), (4, .int a4), (5, .int a5), (7, .int v7), (8, .int v8), (9, .int v9), (10, .int v10), (11, .int v11), (12, .int v12), (13, .int v13)] dX11_works_233 11 rfl rfl (by decide) rfl ?_
  refine a_goto 180 dX11_works_236 (by decide) ?_
  refine a_loc [(0, .ref (za Z 60 0)), (3, .int a3), (4, .int a4), (5, .int a5), (7, .int v7), (8, .int v8), (9, .int v9), (10, .int v10), (11, .int v11), (12, .int v12), (13, .int v13), (14, .int (v14 + 1))] [1, 2, 3, 4, 5, 6, 7, 8, 9, 10, 11, 0] rfl ?_
  exact w180_ v7 v8 v9 v10 v11 v12 v13 (v14 + 1)  _ hF
set_option maxRecDepth 100000 in
set_option maxHeartbeats 4000000 in
theorem w_X11_works_180 {Z : ZE} {l : Launch} (hZ : OkM Z) {a1 : Int32} {a2 : Int32} {a3 : Int32} {a4 : Int32} {a5 : Int32}  {R : Int32 × St} (h239_ : Int32 → Int32 → Int32 → Int32 → Int32 → Int32 → Int32 → St → Option (Int32 × St)) (w239_ : ∀ (v7 : Int32) (v8 : Int32) (v9 : Int32) (v10 : Int32) (v11 : Int32) (v12 : Int32) (v13 : Int32)  (s : St), h239_ v7 v8 v9 v10 v11 v12 v13 s = some R → AW Z l iX11_works (Pq (rI R)) 0 0 239 [(0, .ref (za Z 60 0)), (3, .int a3), (4, .int a4), (5, .int a5), (7, .int v7), (8, .int v8), (9, .int v9), (10, .int v10), (11, .int v11), (12, .int v12), (13, .int v13)] [] s) : ∀ (n_ : Nat) (v7 : Int32) (v8 : Int32) (v9 : Int32) (v10 : Int32) (v11 : Int32) (v12 : Int32) (v13 : Int32) (v14 : Int32)  (s : St), F_X11_works_180 (zg Z) a1 a2 a3 a4 a5 h239_ n_ v7 v8 v9 v10 v11 v12 v13 v14 s = some R → AW Z l iX11_works (Pq (rI R)) 0 0 180 [(0, .ref (za Z 60 0)), (3, .int a3), (4, .int a4), (5, .int a5), (7, .int v7), (8, .int v8), (9, .int v9), (10, .int v10), (11, .int v11), (12, .int v12), (13, .int v13), (14, .int v14)] [] s := by
  intro n_
  induction n_ with
  | zero =>
    intro v7 v8 v9 v10 v11 v12 v13 v14 s hF
    exact absurd hF (by rw [F_X11_works_180]; exact fun q => by cases q)
  | succ n_ w180_ =>
    intro v7 v8 v9 v10 v11 v12 v13 v14 s hF
    rw [F_X11_works_180] at hF
    refine a_iload dX11_works_180 11 rfl ?_
    refine a_iload_n dX11_works_182 1 rfl rfl ?_
    refine a_icmp_ge 239 dX11_works_183 (by decide) (fun q1 => ?_) (fun q1 => ?_)
    · replace hF := (if_pos q1).symm.trans hF
      refine a_loc [(0, .ref (za Z 60 0)), (3, .int a3), (4, .int a4), (5, .int a5), (7, .int v7), (8, .int v8), (9, .int v9), (10, .int v10), (11, .int v11), (12, .int v12), (13, .int v13)] [0, 1, 2, 3, 4, 5, 6, 7, 8, 9, 10] rfl ?_
      exact w239_ v7 v8 v9 v10 v11 v12 v13  _ hF
    · replace hF := (if_neg q1).symm.trans hF
      refine a_iload dX11_works_186 8 rfl ?_
      refine a_iload dX11_works_188 11 rfl ?_
      refine a_ishr dX11_works_190 ?_
      refine a_iconst (v := (1 : Int32)) dX11_works_191 (by decide) ?_
      refine a_iand dX11_works_192 ?_
      refine a_iconst (v := (1 : Int32)) dX11_works_193 (by decide) ?_
      refine a_icmp_ne 233 dX11_works_194 (by decide) (fun q2 => ?_) (fun q2 => ?_)
      · replace hF := (if_neg q2).symm.trans hF
        exact w_X11_works_233 (l := l) hZ  (F_X11_works_180 (zg Z) a1 a2 a3 a4 a5 h239_ n_) w180_ h239_ w239_ v7 v8 v9 v10 v11 v12 v13 v14  _ hF
      · replace hF := (if_pos q2).symm.trans hF
        refine a_iload dX11_works_197 9 rfl ?_
        refine a_aload_n dX11_works_199 0 rfl rfl ?_
        refine a_getR hZ.1 (hZ.2 60 0 (by decide) (by decide) Nat.one_pos) fl_X11_24 rfl 0 rfl dX11_works_200 ?_
        refine a_iload dX11_works_203 4 rfl ?_
        refine a_iconst (v := (2 : Int32)) dX11_works_205 (by decide) ?_
        refine a_iload dX11_works_206 11 rfl ?_
        refine a_imul dX11_works_208 ?_
        refine a_iadd dX11_works_209 ?_
        obtain ⟨p3, hF⟩ := gd_some hF
        refine a_iald hZ.1 (s 63 0 (v7 + ((2 : Int32) * v14)).toNatClampNeg) (hZ.2 63 0 (by decide) (by decide) Nat.one_pos) rfl rfl (inb_vp p3) rfl dX11_works_210 ?_
        refine a_iadd dX11_works_211 ?_
        refine a_istore [(12, .int (v12 + (s 63 0 (v7 + ((2 : Int32) * v14)).toNatClampNeg))), (0, .ref (za Z 60 0)), (3, .int a3), (4, .int a4), (5, .int a5), (7, .int v7), (8, .int v8), (9, .int v9), (10, .int v10), (11, .int v11), (13, .int v13), (14, .int v14)] dX11_works_212 (by decide) rfl ?_
        refine a_iload dX11_works_214 10 rfl ?_
        refine a_aload_n dX11_works_216 1 rfl rfl ?_
        refine a_getR hZ.1 (hZ.2 60 0 (by decide) (by decide) Nat.one_pos) fl_X11_24 rfl 0 rfl dX11_works_217 ?_
        refine a_iload dX11_works_220 5 rfl ?_
        refine a_iconst (v := (2 : Int32)) dX11_works_222 (by decide) ?_
        refine a_iload dX11_works_223 11 rfl ?_
        refine a_imul dX11_works_225 ?_
        refine a_iadd dX11_works_226 ?_
        refine a_iconst (v := (1 : Int32)) dX11_works_227 (by decide) ?_
        refine a_iadd dX11_works_228 ?_
        obtain ⟨p4, hF⟩ := gd_some hF
        refine a_iald hZ.1 (s 63 0 ((v7 + ((2 : Int32) * v14)) + (1 : Int32)).toNatClampNeg) (hZ.2 63 0 (by decide) (by decide) Nat.one_pos) rfl rfl (inb_vp p4) rfl dX11_works_229 ?_
        refine a_iadd dX11_works_230 ?_
        refine a_istore [(13, .int (v13 + (s 63 0 ((v7 + ((2 : Int32) * v14)) + (1 : Int32)).toNatClampNeg))), (12, .int (v12 + (s 63 0 (v7 + ((2 : Int32) * v14)).toNatClampNeg))), (0, .ref (za Z 60 0)), (3, .int a3), (4, .int a4), (5, .int a5), (7, .int v7), (8, .int v8), (9, .int v9), (10, .int v10), (11, .int v11), (14, .int v14)] dX11_works_231 (by decide) rfl ?_
        refine a_loc [(0, .ref (za Z 60 0)), (3, .int a3), (4, .int a4), (5, .int a5), (7, .int v7), (8, .int v8), (9, .int v9), (10, .int v10), (11, .int v11), (12, .int (v12 + (s 63 0 (v7 + ((2 : Int32) * v14)).toNatClampNeg))), (13, .int (v13 + (s 63 0 ((v7 + ((2 : Int32) * v14)) + (1 : Int32)).toNatClampNeg))), (14, .int v14)] [2, 3, 4, 5, 6, 7, 8, 9, 10, 1, 0, 11] rfl ?_
        exact w_X11_works_233 (l := l) hZ  (F_X11_works_180 (zg Z) a1 a2 a3 a4 a5 h239_ n_) w180_ h239_ w239_ v7 v8 v9 v10 v11 (v12 + (s 63 0 (v7 + ((2 : Int32) * v14)).toNatClampNeg)) (v13 + (s 63 0 ((v7 + ((2 : Int32) * v14)) + (1 : Int32)).toNatClampNeg)) v14  _ hF
set_option maxRecDepth 100000 in
set_option maxHeartbeats 4000000 in
theorem w_X11_works_163 {Z : ZE} {l : Launch} (hZ : OkM Z) {a1 : Int32} {a2 : Int32} {a3 : Int32} {a4 : Int32} {a5 : Int32}  {R : Int32 × St} (h285_ : Int32 → Int32 → Int32 → St → Option (Int32 × St)) (w285_ : ∀ (v8 : Int32) (v9 : Int32) (v10 : Int32)  (s : St), h285_ v8 v9 v10 s = some R → AW Z l iX11_works (Pq (rI R)) 0 0 285 [(5, .int a5), (8, .int v8), (9, .int v9), (10, .int v10)] [] s) : ∀ (n_ : Nat) (v7 : Int32) (v8 : Int32) (v9 : Int32) (v10 : Int32) (v11 : Int32)  (s : St), F_X11_works_163 (zg Z) a1 a2 a3 a4 a5 h285_ n_ v7 v8 v9 v10 v11 s = some R → AW Z l iX11_works (Pq (rI R)) 0 0 163 [(0, .ref (za Z 60 0)), (3, .int a3), (4, .int a4), (5, .int a5), (7, .int v7), (8, .int v8), (9, .int v9), (10, .int v10), (11, .int v11)] [] s := by
  intro n_
  induction n_ with
  | zero =>
    intro v7 v8 v9 v10 v11 s hF
    exact absurd hF (by rw [F_X11_works_163]; exact fun q => by cases q)
  | succ n_ w163_ =>
    intro v7 v8 v9 v10 v11 s hF
    rw [F_X11_works_163] at hF
    refine a_iload dX11_works_163 8 rfl ?_
    refine a_iconst (v := (1 : Int32)) dX11_works_165 (by decide) ?_
    refine a_iload_n dX11_works_166 1 rfl rfl ?_
    refine a_ishl dX11_works_167 ?_
    refine a_icmp_ge 285 dX11_works_168 (by decide) (fun q1 => ?_) (fun q1 => ?_)
    · replace hF := (if_pos q1).symm.trans hF
      refine a_loc [(5, .int a5), (8, .int v8), (9, .int v9), (10, .int v10)] [3, 5, 6, 7] rfl ?_
      exact w285_ v8 v9 v10  _ hF
    · replace hF := (if_neg q1).symm.trans hF
      refine a_iconst (v := (0 : Int32)) dX11_works_171 (by decide) ?_
      refine a_istore [(12, .int (0 : Int32)), (0, .ref (za Z 60 0)), (3, .int a3), (4, .int a4), (5, .int a5), (7, .int v7), (8, .int v8), (9, .int v9), (10, .int v10), (11, .int v11)] dX11_works_172 (by decide) rfl ?_
      refine a_iconst (v := (0 : Int32)) dX11_works_174 (by decide) ?_
      refine a_istore [(13, .int (0 : Int32)), (12, .int (0 : Int32)), (0, .ref (za Z 60 0)), (3, .int a3), (4, .int a4), (5, .int a5), (7, .int v7), (8, .int v8), (9, .int v9), (10, .int v10), (11, .int v11)] dX11_works_175 (by decide) rfl ?_
      refine a_iconst (v := (0 : Int32)) dX11_works_177 (by decide) ?_
      refine a_istore [(14, .int (0 : Int32)), (13, .int (0 : Int32)), (12, .int (0 : Int32)), (0, .ref (za Z 60 0)), (3, .int a3), (4, .int a4), (5, .int a5), (7, .int v7), (8, .int v8), (9, .int v9), (10, .int v10), (11, .int v11)] dX11_works_178 (by decide) rfl ?_
      refine a_loc [(0, .ref (za Z 60 0)), (3, .int a3), (4, .int a4), (5, .int a5), (7, .int v7), (8, .int v8), (9, .int v9), (10, .int v10), (11, .int v11), (12, .int (0 : Int32)), (13, .int (0 : Int32)), (14, .int (0 : Int32))] [3, 4, 5, 6, 7, 8, 9, 10, 11, 2, 1, 0] rfl ?_
      exact w_X11_works_180 (l := l) hZ  (F_X11_works_239 (zg Z) a1 a2 a3 a4 a5 (F_X11_works_163 (zg Z) a1 a2 a3 a4 a5 h285_ n_) h285_) (w_X11_works_239 (l := l) hZ  (F_X11_works_163 (zg Z) a1 a2 a3 a4 a5 h285_ n_) w163_ h285_ w285_) fu v7 v8 v9 v10 v11 (0 : Int32) (0 : Int32) (0 : Int32)  _ hF
set_option maxRecDepth 100000 in
set_option maxHeartbeats 4000000 in
theorem w_X11_works_146 {Z : ZE} {l : Launch} (hZ : OkM Z) {a1 : Int32} {a2 : Int32} {a3 : Int32} {a4 : Int32} {a5 : Int32}  {R : Int32 × St}  (v7 : Int32)  (s : St) (hF : F_X11_works_146 (zg Z) a1 a2 a3 a4 a5 v7 s = some R) : AW Z l iX11_works (Pq (rI R)) 0 0 146 [(0, .ref (za Z 60 0)), (3, .int a3), (4, .int a4), (5, .int a5), (7, .int v7)] [] s := by
  unfold F_X11_works_146 at hF
  refine a_aload_n dX11_works_146 0 rfl rfl ?_
  refine a_iconst (v := (0 : Int32)) dX11_works_147 (by decide) ?_
  refine a_put hZ.1 (hZ.2 60 0 (by decide) (by decide) Nat.one_pos) fl_X11_7 rfl rfl rfl dX11_works_148 ?_
  refine a_iconst (v := (0 : Int32)) dX11_works_151 (by decide) ?_
  refine a_istore [(8, .int (0 : Int32)), (0, .ref (za Z 60 0)), (3, .int a3), (4, .int a4), (5, .int a5), (7, .int v7)] dX11_works_152 (by decide) rfl ?_
  refine a_iconst (v := (0 : Int32)) dX11_works_154 (by decide) ?_
  refine a_istore [(9, .int (0 : Int32)), (8, .int (0 : Int32)), (0, .ref (za Z 60 0)), (3, .int a3), (4, .int a4), (5, .int a5), (7, .int v7)] dX11_works_155 (by decide) rfl ?_
  refine a_iconst (v := (0 : Int32)) dX11_works_157 (by decide) ?_
  refine a_istore [(10, .int (0 : Int32)), (9, .int (0 : Int32)), (8, .int (0 : Int32)), (0, .ref (za Z 60 0)), (3, .int a3), (4, .int a4), (5, .int a5), (7, .int v7)] dX11_works_158 (by decide) rfl ?_
  refine a_iconst (v := (1 : Int32)) dX11_works_160 (by decide) ?_
  refine a_istore [(11, .int (1 : Int32)), (10, .int (0 : Int32)), (9, .int (0 : Int32)), (8, .int (0 : Int32)), (0, .ref (za Z 60 0)), (3, .int a3), (4, .int a4), (5, .int a5), (7, .int v7)] dX11_works_161 (by decide) rfl ?_
  refine a_loc [(0, .ref (za Z 60 0)), (3, .int a3), (4, .int a4), (5, .int a5), (7, .int v7), (8, .int (0 : Int32)), (9, .int (0 : Int32)), (10, .int (0 : Int32)), (11, .int (1 : Int32))] [4, 5, 6, 7, 8, 3, 2, 1, 0] rfl ?_
  exact w_X11_works_163 (l := l) hZ  (F_X11_works_285 (zg Z) a1 a2 a3 a4 a5 ) (w_X11_works_285 (l := l) hZ  ) fu v7 (0 : Int32) (0 : Int32) (0 : Int32) (1 : Int32)  _ hF
set_option maxRecDepth 100000 in
set_option maxHeartbeats 4000000 in
theorem w_X11_works_83 {Z : ZE} {l : Launch} (hZ : OkM Z) {a1 : Int32} {a2 : Int32} {a3 : Int32} {a4 : Int32} {a5 : Int32}  {R : Int32 × St} (h146_ : Int32 → St → Option (Int32 × St)) (w146_ : ∀ (v7 : Int32)  (s : St), h146_ v7 s = some R → AW Z l iX11_works (Pq (rI R)) 0 0 146 [(0, .ref (za Z 60 0)), (3, .int a3), (4, .int a4), (5, .int a5), (7, .int v7)] [] s) : ∀ (n_ : Nat) (v7 : Int32) (v8 : Int32)  (s : St), F_X11_works_83 (zg Z) a1 a2 a3 a4 a5 h146_ n_ v7 v8 s = some R → AW Z l iX11_works (Pq (rI R)) 0 0 83 [(0, .ref (za Z 60 0)), (3, .int a3), (4, .int a4), (5, .int a5), (7, .int v7), (8, .int v8)] [] s := by
  intro n_
  induction n_ with
  | zero =>
    intro v7 v8 s hF
    exact absurd hF (by rw [F_X11_works_83]; exact fun q => by cases q)
  | succ n_ w83_ =>
    intro v7 v8 s hF
    rw [F_X11_works_83] at hF
    refine a_iload dX11_works_83 5 rfl ?_
    refine a_iload_n dX11_works_85 1 rfl rfl ?_
    refine a_icmp_ge 146 dX11_works_86 (by decide) (fun q1 => ?_) (fun q1 => ?_)
    · replace hF := (if_pos q1).symm.trans hF
      refine a_loc [(0, .ref (za Z 60 0)), (3, .int a3), (4, .int a4), (5, .int a5), (7, .int v7)] [0, 1, 2, 3, 4] rfl ?_
      exact w146_ v7  _ hF
    · replace hF := (if_neg q1).symm.trans hF
      refine a_aload_n dX11_works_89 0 rfl rfl ?_
      refine a_getR hZ.1 (hZ.2 60 0 (by decide) (by decide) Nat.one_pos) fl_X11_24 rfl 0 rfl dX11_works_90 ?_
      refine a_iload dX11_works_93 4 rfl ?_
      refine a_iconst (v := (2 : Int32)) dX11_works_95 (by decide) ?_
      refine a_iload dX11_works_96 5 rfl ?_
      refine a_imul dX11_works_98 ?_
      refine a_iadd dX11_works_99 ?_
      obtain ⟨p2, hF⟩ := gd_some hF
      refine a_iald hZ.1 (s 63 0 (v7 + ((2 : Int32) * v8)).toNatClampNeg) (hZ.2 63 0 (by decide) (by decide) Nat.one_pos) rfl rfl (inb_vp p2) rfl dX11_works_100 ?_
      refine a_i2l dX11_works_101 ?_
      refine a_lconst (v := (1 : Int64)) dX11_works_102 (by decide) ?_
      refine a_ldc2 (v := (100 : Int64)) kw_1167 dX11_works_103 ?_
      obtain ⟨r106, s106, e106, hF⟩ := bd_some hF
      refine a_invS hZ.1 (As := [.long (s 63 0 (v7 + ((2 : Int32) * v8)).toNatClampNeg).toInt64, .long (1 : Int64), .long (100 : Int64)]) (rest := []) lk_X11_126 ⟨⟨by decide, by decide⟩, by decide, by decide⟩ rfl (Nat.le_of_ble_eq_true rfl) dX11_works_106 (m_X11_in hZ  e106) ?_
      show AW Z l iX11_works (Pq (rI R)) 0 0 109 [(0, .ref (za Z 60 0)), (3, .int a3), (4, .int a4), (5, .int a5), (7, .int v7), (8, .int v8)] [.int r106] s106
      refine a_if_eq 137 dX11_works_109 (by decide) (fun q3 => ?_) (fun q3 => ?_)
      · replace hF := (if_pos q3).symm.trans hF
        refine a_ldc (v := (-1000001)) kw_1136 dX11_works_137 ?_
        replace hF := Option.some.inj hF
        subst hF
        exact a_iret rfl (Nat.zero_le _) (Nat.zero_le _) dX11_works_139 ⟨rfl, rfl⟩
      · replace hF := (if_neg q3).symm.trans hF
        refine a_aload_n dX11_works_112 0 rfl rfl ?_
        refine a_getR hZ.1 (hZ.2 60 0 (by decide) (by decide) Nat.one_pos) fl_X11_24 rfl 0 rfl dX11_works_113 ?_
        refine a_iload dX11_works_116 4 rfl ?_
        refine a_iconst (v := (2 : Int32)) dX11_works_118 (by decide) ?_
        refine a_iload dX11_works_119 5 rfl ?_
        refine a_imul dX11_works_121 ?_
        refine a_iadd dX11_works_122 ?_
        refine a_iconst (v := (1 : Int32)) dX11_works_123 (by decide) ?_
        refine a_iadd dX11_works_124 ?_
        obtain ⟨p4, hF⟩ := gd_some hF
        refine a_iald hZ.1 (s106 63 0 ((v7 + ((2 : Int32) * v8)) + (1 : Int32)).toNatClampNeg) (hZ.2 63 0 (by decide) (by decide) Nat.one_pos) rfl rfl (inb_vp p4) rfl dX11_works_125 ?_
        refine a_i2l dX11_works_126 ?_
        refine a_lconst (v := (0 : Int64)) dX11_works_127 (by decide) ?_
        refine a_ldc2 (v := (100 : Int64)) kw_1167 dX11_works_128 ?_
        obtain ⟨r131, s131, e131, hF⟩ := bd_some hF
        refine a_invS hZ.1 (As := [.long (s106 63 0 ((v7 + ((2 : Int32) * v8)) + (1 : Int32)).toNatClampNeg).toInt64, .long (0 : Int64), .long (100 : Int64)]) (rest := []) lk_X11_126 ⟨⟨by decide, by decide⟩, by decide, by decide⟩ rfl (Nat.le_of_ble_eq_true rfl) dX11_works_131 (m_X11_in hZ  e131) ?_
        show AW Z l iX11_works (Pq (rI R)) 0 0 134 [(0, .ref (za Z 60 0)), (3, .int a3), (4, .int a4), (5, .int a5), (7, .int v7), (8, .int v8)] [.int r131] s131
        refine a_if_ne 140 dX11_works_134 (by decide) (fun q5 => ?_) (fun q5 => ?_)
        · replace hF := (if_neg q5).symm.trans hF
          refine a_iinc [(8, .int (v8 + 1)), (0, .ref (za Z 60 0)), (3, .int a3), (4, .int a4), (5, .int a5), (7, .int v7)] dX11_works_140 5 rfl rfl (by decide) rfl ?_
          refine a_goto 83 dX11_works_143 (by decide) ?_
          refine a_loc [(0, .ref (za Z 60 0)), (3, .int a3), (4, .int a4), (5, .int a5), (7, .int v7), (8, .int (v8 + 1))] [1, 2, 3, 4, 5, 0] rfl ?_
          exact w83_ v7 (v8 + 1)  _ hF
        · replace hF := (if_pos q5).symm.trans hF
          refine a_ldc (v := (-1000001)) kw_1136 dX11_works_137 ?_
          replace hF := Option.some.inj hF
          subst hF
          exact a_iret rfl (Nat.zero_le _) (Nat.zero_le _) dX11_works_139 ⟨rfl, rfl⟩
set_option maxRecDepth 100000 in
set_option maxHeartbeats 4000000 in
theorem w_X11_works {Z : ZE} {l : Launch} (hZ : OkM Z) {a1 : Int32} {a2 : Int32} {a3 : Int32} {a4 : Int32} {a5 : Int32}  {R : Int32 × St}    (s : St) (hF : F_X11_works (zg Z) a1 a2 a3 a4 a5  s = some R) : AW Z l iX11_works (Pq (rI R)) 0 0 0 [(0, .ref (za Z 60 0)), (1, .int a1), (2, .int a2), (3, .int a3), (4, .int a4), (5, .int a5)] [] s := by
  unfold F_X11_works at hF
  refine a_aload_n dX11_works_0 0 rfl rfl ?_
  refine a_iconst (v := (0 : Int32)) dX11_works_1 (by decide) ?_
  refine a_put hZ.1 (hZ.2 60 0 (by decide) (by decide) Nat.one_pos) fl_X11_1 rfl rfl rfl dX11_works_2 ?_
  refine a_iload_n dX11_works_5 1 rfl rfl ?_
  obtain ⟨r6, s6, e6, hF⟩ := bd_some hF
  refine a_invS hZ.1 (As := [.int a1]) (rest := []) lk_X11_130 ⟨⟨by decide, by decide⟩, by decide, by decide⟩ rfl (Nat.le_of_ble_eq_true rfl) dX11_works_6 (m_X11_isSheet hZ  e6) ?_
  show AW Z l iX11_works (Pq (rI R)) 0 0 9 [(0, .ref (za Z 60 0)), (1, .int a1), (2, .int a2), (3, .int a3), (4, .int a4), (5, .int a5)] [.int r6] s6
  refine a_if_eq 50 dX11_works_9 (by decide) (fun q1 => ?_) (fun q1 => ?_)
  · replace hF := (if_pos q1).symm.trans hF
    refine a_ldc (v := (-1000001)) kw_1136 dX11_works_50 ?_
    replace hF := Option.some.inj hF
    subst hF
    exact a_iret rfl (Nat.zero_le _) (Nat.zero_le _) dX11_works_52 ⟨rfl, rfl⟩
  · replace hF := (if_neg q1).symm.trans hF
    refine a_iload_n dX11_works_12 3 rfl rfl ?_
    refine a_i2l dX11_works_13 ?_
    refine a_lconst (v := (1 : Int64)) dX11_works_14 (by decide) ?_
    refine a_ldc2 (v := (10 : Int64)) kw_1315 dX11_works_15 ?_
    obtain ⟨r18, s18, e18, hF⟩ := bd_some hF
    refine a_invS hZ.1 (As := [.long a3.toInt64, .long (1 : Int64), .long (10 : Int64)]) (rest := []) lk_X11_126 ⟨⟨by decide, by decide⟩, by decide, by decide⟩ rfl (Nat.le_of_ble_eq_true rfl) dX11_works_18 (m_X11_in hZ  e18) ?_
    show AW Z l iX11_works (Pq (rI R)) 0 0 21 [(0, .ref (za Z 60 0)), (1, .int a1), (2, .int a2), (3, .int a3), (4, .int a4), (5, .int a5)] [.int r18] s18
    refine a_if_eq 50 dX11_works_21 (by decide) (fun q2 => ?_) (fun q2 => ?_)
    · replace hF := (if_pos q2).symm.trans hF
      refine a_ldc (v := (-1000001)) kw_1136 dX11_works_50 ?_
      replace hF := Option.some.inj hF
      subst hF
      exact a_iret rfl (Nat.zero_le _) (Nat.zero_le _) dX11_works_52 ⟨rfl, rfl⟩
    · replace hF := (if_neg q2).symm.trans hF
      refine a_iload dX11_works_24 4 rfl ?_
      refine a_i2l dX11_works_26 ?_
      refine a_lconst (v := (0 : Int64)) dX11_works_27 (by decide) ?_
      refine a_ldc2 (v := (500 : Int64)) kw_1175 dX11_works_28 ?_
      obtain ⟨r31, s31, e31, hF⟩ := bd_some hF
      refine a_invS hZ.1 (As := [.long a4.toInt64, .long (0 : Int64), .long (500 : Int64)]) (rest := []) lk_X11_126 ⟨⟨by decide, by decide⟩, by decide, by decide⟩ rfl (Nat.le_of_ble_eq_true rfl) dX11_works_31 (m_X11_in hZ  e31) ?_
      show AW Z l iX11_works (Pq (rI R)) 0 0 34 [(0, .ref (za Z 60 0)), (1, .int a1), (2, .int a2), (3, .int a3), (4, .int a4), (5, .int a5)] [.int r31] s31
      refine a_if_eq 50 dX11_works_34 (by decide) (fun q3 => ?_) (fun q3 => ?_)
      · replace hF := (if_pos q3).symm.trans hF
        refine a_ldc (v := (-1000001)) kw_1136 dX11_works_50 ?_
        replace hF := Option.some.inj hF
        subst hF
        exact a_iret rfl (Nat.zero_le _) (Nat.zero_le _) dX11_works_52 ⟨rfl, rfl⟩
      · replace hF := (if_neg q3).symm.trans hF
        refine a_iload dX11_works_37 5 rfl ?_
        refine a_i2l dX11_works_39 ?_
        refine a_lconst (v := (0 : Int64)) dX11_works_40 (by decide) ?_
        refine a_ldc2 (v := (2 : Int64)) kw_1135 dX11_works_41 ?_
        obtain ⟨r44, s44, e44, hF⟩ := bd_some hF
        refine a_invS hZ.1 (As := [.long a5.toInt64, .long (0 : Int64), .long (2 : Int64)]) (rest := []) lk_X11_126 ⟨⟨by decide, by decide⟩, by decide, by decide⟩ rfl (Nat.le_of_ble_eq_true rfl) dX11_works_44 (m_X11_in hZ  e44) ?_
        show AW Z l iX11_works (Pq (rI R)) 0 0 47 [(0, .ref (za Z 60 0)), (1, .int a1), (2, .int a2), (3, .int a3), (4, .int a4), (5, .int a5)] [.int r44] s44
        refine a_if_ne 53 dX11_works_47 (by decide) (fun q4 => ?_) (fun q4 => ?_)
        · replace hF := (if_neg q4).symm.trans hF
          refine a_aload_n dX11_works_53 0 rfl rfl ?_
          refine a_iload_n dX11_works_54 1 rfl rfl ?_
          refine a_iload_n dX11_works_55 2 rfl rfl ?_
          refine a_iconst (v := (2 : Int32)) dX11_works_56 (by decide) ?_
          refine a_iload_n dX11_works_57 3 rfl rfl ?_
          refine a_imul dX11_works_58 ?_
          obtain ⟨r59, s59, e59, hF⟩ := bd_some hF
          refine a_invV hZ.1 (As := [.int a1, .int a2, .int ((2 : Int32) * a3)]) (rest := []) (hZ.2 60 0 (by decide) (by decide) Nat.one_pos) lk_X11_316 ⟨⟨by decide, by decide⟩, by decide, by decide⟩ rfl (Nat.le_of_ble_eq_true rfl) dX11_works_59 (m_X11_lookItems hZ  e59) ?_
          show AW Z l iX11_works (Pq (rI R)) 0 0 62 [(0, .ref (za Z 60 0)), (1, .int a1), (2, .int a2), (3, .int a3), (4, .int a4), (5, .int a5)] [.int r59] s59
          refine a_istore [(6, .int r59), (0, .ref (za Z 60 0)), (1, .int a1), (2, .int a2), (3, .int a3), (4, .int a4), (5, .int a5)] dX11_works_62 (by decide) rfl ?_
          refine a_iload dX11_works_64 0 rfl ?_
          refine a_if_ge 72 dX11_works_66 (by decide) (fun q5 => ?_) (fun q5 => ?_)
          · replace hF := (if_pos q5).symm.trans hF
            refine a_bipush (v := (80 : Int32)) dX11_works_72 (by decide) ?_
            refine a_iload_n dX11_works_74 2 rfl rfl ?_
            refine a_imul dX11_works_75 ?_
            refine a_iload_n dX11_works_76 3 rfl rfl ?_
            refine a_iadd dX11_works_77 ?_
            refine a_istore [(7, .int (((80 : Int32) * a1) + a2)), (6, .int r59), (0, .ref (za Z 60 0)), (1, .int a1), (2, .int a2), (3, .int a3), (4, .int a4), (5, .int a5)] dX11_works_78 (by decide) rfl ?_
            refine a_iconst (v := (0 : Int32)) dX11_works_80 (by decide) ?_
            refine a_istore [(8, .int (0 : Int32)), (7, .int (((80 : Int32) * a1) + a2)), (6, .int r59), (0, .ref (za Z 60 0)), (1, .int a1), (2, .int a2), (3, .int a3), (4, .int a4), (5, .int a5)] dX11_works_81 (by decide) rfl ?_
            refine a_loc [(0, .ref (za Z 60 0)), (3, .int a3), (4, .int a4), (5, .int a5), (7, .int (((80 : Int32) * a1) + a2)), (8, .int (0 : Int32))] [3, 6, 7, 8, 1, 0] rfl ?_
            exact w_X11_works_83 (l := l) hZ  (F_X11_works_146 (zg Z) a1 a2 a3 a4 a5 ) (w_X11_works_146 (l := l) hZ  ) fu (((80 : Int32) * a1) + a2) (0 : Int32)  _ hF
          · replace hF := (if_neg q5).symm.trans hF
            refine a_iload dX11_works_69 0 rfl ?_
            replace hF := Option.some.inj hF
            subst hF
            exact a_iret rfl (Nat.zero_le _) (Nat.zero_le _) dX11_works_71 ⟨rfl, rfl⟩
        · replace hF := (if_pos q4).symm.trans hF
          refine a_ldc (v := (-1000001)) kw_1136 dX11_works_50 ?_
          replace hF := Option.some.inj hF
          subst hF
          exact a_iret rfl (Nat.zero_le _) (Nat.zero_le _) dX11_works_52 ⟨rfl, rfl⟩
theorem m_X11_works {Z : ZE} {l : Launch} (hZ : OkM Z) {a1 : Int32} {a2 : Int32} {a3 : Int32} {a4 : Int32} {a5 : Int32}  {s : St} {R : Int32 × St} (hF : F_X11_works (zg Z) a1 a2 a3 a4 a5 s = some R) : Sp Z l yX11_works iX11_works [.ref (za Z 60 0), .int a1, .int a2, .int a3, .int a4, .int a5] s (rI R) :=
  Sp.of (by decide) rfl (Nat.le_of_ble_eq_true rfl) (w_X11_works hZ  s hF)
