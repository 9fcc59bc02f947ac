-- X10_feed
set_option maxRecDepth 100000 in
set_option maxHeartbeats 4000000 in
theorem w_X10_feed {Z : ZE} {l : Launch} (hZ : OkX Z) {a1 : Int64} {a3 : Int32}  {R : Int32 × St}    (s : St) (hF : F_X10_feed (zg Z) a1 a3  s = some R) : AW Z l iX10_feed (Pq (rI R)) 0 0 0 [(0, .ref (za Z 0 0)), (1, .long a1), (3, .int a3)] [] s := by
  unfold F_X10_feed at hF
  refine a_iload_n dX10_feed_0 2 rfl rfl ?_
  refine a_iconst (v := (1 : Int32)) dX10_feed_1 (by decide) ?_
  refine a_bipush (v := (8 : Int32)) dX10_feed_2 (by decide) ?_
  obtain ⟨r4, s4, e4, hF⟩ := bd_some hF
  refine a_invS hZ.1 (As := [.int a3, .int (1 : Int32), .int (8 : Int32)]) (rest := []) lk_X10_75 ⟨⟨by decide, by decide⟩, by decide, by decide⟩ rfl (Nat.le_of_ble_eq_true rfl) dX10_feed_4 (m_X10_within hZ  e4) ?_
  show AW Z l iX10_feed (Pq (rI R)) 0 0 7 [(0, .ref (za Z 0 0)), (1, .long a1), (3, .int a3)] [.int r4] s4
  refine a_if_ne 13 dX10_feed_7 (by decide) (fun q1 => ?_) (fun q1 => ?_)
  · replace hF := (if_neg q1).symm.trans hF
    refine a_aload_n dX10_feed_13 0 rfl rfl ?_
    refine a_getR hZ.1 (hZ.2 0 0 (by decide) Nat.one_pos) fl_X10_32 rfl 0 rfl dX10_feed_14 ?_
    refine a_lload_n dX10_feed_17 1 rfl rfl ?_
    refine a_iload_n dX10_feed_18 2 rfl rfl ?_
    obtain ⟨r19, s19, e19, hF⟩ := bd_some hF
    refine a_invV hZ.1 (As := [.long a1, .int a3]) (rest := []) (hZ.2 23 0 (by decide) Nat.one_pos) lk_X10_194 ⟨⟨by decide, by decide⟩, by decide, by decide⟩ rfl (Nat.le_of_ble_eq_true rfl) dX10_feed_19 (m_X8_append hZ  e19) ?_
    show AW Z l iX10_feed (Pq (rI R)) 0 0 22 [(0, .ref (za Z 0 0)), (1, .long a1), (3, .int a3)] [.int r19] s19
    replace hF := Option.some.inj hF
    subst hF
    exact a_iret rfl (Nat.zero_le _) (Nat.zero_le _) dX10_feed_22 ⟨rfl, rfl⟩
  · replace hF := (if_pos q1).symm.trans hF
    refine a_ldc (v := (-1000001)) kw_324 dX10_feed_10 ?_
    replace hF := Option.some.inj hF
    subst hF
    exact a_iret rfl (Nat.zero_le _) (Nat.zero_le _) dX10_feed_12 ⟨rfl, rfl⟩
theorem m_X10_feed {Z : ZE} {l : Launch} (hZ : OkX Z) {a1 : Int64} {a3 : Int32}  {s : St} {R : Int32 × St} (hF : F_X10_feed (zg Z) a1 a3 s = some R) : Sp Z l yX10_feed iX10_feed [.ref (za Z 0 0), .long a1, .int a3] s (rI R) :=
  Sp.of (by decide) rfl (Nat.le_of_ble_eq_true rfl) (w_X10_feed hZ  s hF)
-- X10_isWeek
set_option maxRecDepth 100000 in
set_option maxHeartbeats 4000000 in
theorem w_X10_isWeek {Z : ZE} {l : Launch} (hZ : OkX Z) {a0 : Int32}  {R : Int32 × St}    (s : St) (hF : F_X10_isWeek (zg Z) a0  s = some R) : AW Z l iX10_isWeek (Pq (rI R)) 0 0 0 [(0, .int a0)] [] s := by
  unfold F_X10_isWeek at hF
  refine a_iload_n dX10_isWeek_0 0 rfl rfl ?_
  refine a_iconst (v := (0 : Int32)) dX10_isWeek_1 (by decide) ?_
  refine a_bipush (v := (99 : Int32)) dX10_isWeek_2 (by decide) ?_
  obtain ⟨r4, s4, e4, hF⟩ := bd_some hF
  refine a_invS hZ.1 (As := [.int a0, .int (0 : Int32), .int (99 : Int32)]) (rest := []) lk_X10_75 ⟨⟨by decide, by decide⟩, by decide, by decide⟩ rfl (Nat.le_of_ble_eq_true rfl) dX10_isWeek_4 (m_X10_within hZ  e4) ?_
  show AW Z l iX10_isWeek (Pq (rI R)) 0 0 7 [(0, .int a0)] [.int r4] s4
  obtain ⟨p1, hF⟩ := gd_some hF
  replace hF := Option.some.inj hF
  subst hF
  exact a_zret rfl (isb_n p1) (Nat.zero_le _) (Nat.zero_le _) dX10_isWeek_7 ⟨rfl, rfl⟩
theorem m_X10_isWeek {Z : ZE} {l : Launch} (hZ : OkX Z) {a0 : Int32}  {s : St} {R : Int32 × St} (hF : F_X10_isWeek (zg Z) a0 s = some R) : Sp Z l yX10_isWeek iX10_isWeek [.int a0] s (rI R) :=
  Sp.of (by decide) rfl (Nat.le_of_ble_eq_true rfl) (w_X10_isWeek hZ  s hF)
-- X6_rankGoods
set_option maxRecDepth 100000 in
set_option maxHeartbeats 4000000 in
theorem w_X6_rankGoods_87 {Z : ZE} {l : Launch} (hZ : OkX Z) {a1 : Int32}  {R : Unit × St} (h25_ : Int32 → St → Option (Unit × St)) (w25_ : ∀ (v2 : Int32)  (s : St), h25_ v2 s = some R → AW Z l iX6_rankGoods (Pq (rU R)) 0 0 25 [(0, .ref (za Z 17 0)), (1, .int a1), (2, .int v2)] [] s) (v2 : Int32)  (s : St) (hF : F_X6_rankGoods_87 (zg Z) a1 h25_ v2 s = some R) : AW Z l iX6_rankGoods (Pq (rU R)) 0 0 87 [(0, .ref (za Z 17 0)), (1, .int a1), (2, .int v2)] [] s := by
  unfold F_X6_rankGoods_87 at hF
  refine a_iinc [(2, .int (v2 + 1)), (0, .ref (za Z 17 0)), (1, .int a1)] dX6_rankGoods_87 2 rfl rfl (by decide) rfl ?_
  refine a_goto 25 dX6_rankGoods_90 (by decide) ?_
  refine a_loc [(0, .ref (za Z 17 0)), (1, .int a1), (2, .int (v2 + 1))] [1, 2, 0] rfl ?_
  exact w25_ (v2 + 1)  _ hF
set_option maxRecDepth 100000 in
set_option maxHeartbeats 4000000 in
theorem w_X6_rankGoods_25 {Z : ZE} {l : Launch} (hZ : OkX Z) {a1 : Int32}  {R : Unit × St}  : ∀ (n_ : Nat) (v2 : Int32)  (s : St), F_X6_rankGoods_25 (zg Z) a1 n_ v2 s = some R → AW Z l iX6_rankGoods (Pq (rU R)) 0 0 25 [(0, .ref (za Z 17 0)), (1, .int a1), (2, .int v2)] [] s := by
  intro n_
  induction n_ with
  | zero =>
    intro v2 s hF
    exact absurd hF (by rw [F_X6_rankGoods_25]; exact fun q => by cases q)
  | succ n_ w25_ =>
    intro v2 s hF
    rw [F_X6_rankGoods_25] at hF
    refine a_iload_n dX6_rankGoods_25 2 rfl rfl ?_
    refine a_aload_n dX6_rankGoods_26 0 rfl rfl ?_
    refine a_getI hZ.1 (s 17 0 5) (hZ.2 17 0 (by decide) Nat.one_pos) fl_X6_27 rfl rfl dX6_rankGoods_27 ?_
    refine a_icmp_ge 93 dX6_rankGoods_30 (by decide) (fun q1 => ?_) (fun q1 => ?_)
    · replace hF := (if_pos q1).symm.trans hF
      replace hF := Option.some.inj hF
      subst hF
      exact a_vret rfl (Nat.zero_le _) (Nat.zero_le _) dX6_rankGoods_93 ⟨rfl, rfl⟩
    · replace hF := (if_neg q1).symm.trans hF
      refine a_aload_n dX6_rankGoods_33 0 rfl rfl ?_
      refine a_getR hZ.1 (hZ.2 17 0 (by decide) Nat.one_pos) fl_X6_15 rfl 0 rfl dX6_rankGoods_34 ?_
      refine a_iload_n dX6_rankGoods_37 2 rfl rfl ?_
      obtain ⟨p2, hF⟩ := gd_some hF
      refine a_iald hZ.1 (s 19 0 v2.toNatClampNeg) (hZ.2 19 0 (by decide) Nat.one_pos) rfl rfl (inb_vp p2) rfl dX6_rankGoods_38 ?_
      refine a_bipush (v := (7 : Int32)) dX6_rankGoods_39 (by decide) ?_
      refine a_icmp_ne 87 dX6_rankGoods_41 (by decide) (fun q3 => ?_) (fun q3 => ?_)
      · replace hF := (if_neg q3).symm.trans hF
        exact w_X6_rankGoods_87 (l := l) hZ  (F_X6_rankGoods_25 (zg Z) a1 n_) w25_ v2  _ hF
      · replace hF := (if_pos q3).symm.trans hF
        refine a_aload_n dX6_rankGoods_44 0 rfl rfl ?_
        refine a_getR hZ.1 (hZ.2 17 0 (by decide) Nat.one_pos) fl_X6_11 rfl 0 rfl dX6_rankGoods_45 ?_
        refine a_iload_n dX6_rankGoods_48 2 rfl rfl ?_
        obtain ⟨p4, hF⟩ := gd_some hF
        refine a_iald hZ.1 (s 18 0 v2.toNatClampNeg) (hZ.2 18 0 (by decide) Nat.one_pos) rfl rfl (inb_vp p4) rfl dX6_rankGoods_49 ?_
        refine a_iload_n dX6_rankGoods_50 1 rfl rfl ?_
        refine a_icmp_gt 87 dX6_rankGoods_51 (by decide) (fun q5 => ?_) (fun q5 => ?_)
        · replace hF := (if_pos q5).symm.trans hF
          exact w_X6_rankGoods_87 (l := l) hZ  (F_X6_rankGoods_25 (zg Z) a1 n_) w25_ v2  _ hF
        · replace hF := (if_neg q5).symm.trans hF
          refine a_aload_n dX6_rankGoods_54 0 rfl rfl ?_
          refine a_getR hZ.1 (hZ.2 17 0 (by decide) Nat.one_pos) fl_X6_18 rfl 0 rfl dX6_rankGoods_55 ?_
          refine a_iload_n dX6_rankGoods_58 2 rfl rfl ?_
          obtain ⟨p6, hF⟩ := gd_some hF
          refine a_iald hZ.1 (s 20 0 v2.toNatClampNeg) (hZ.2 20 0 (by decide) Nat.one_pos) rfl rfl (inb_vp p6) rfl dX6_rankGoods_59 ?_
          refine a_istore_n [(3, .int (s 20 0 v2.toNatClampNeg)), (0, .ref (za Z 17 0)), (1, .int a1), (2, .int v2)] dX6_rankGoods_60 rfl (by decide) rfl ?_
          refine a_aload_n dX6_rankGoods_61 1 rfl rfl ?_
          refine a_getR hZ.1 (hZ.2 17 0 (by decide) Nat.one_pos) fl_X6_24 rfl 0 rfl dX6_rankGoods_62 ?_
          refine a_iload_n dX6_rankGoods_65 0 rfl rfl ?_
          refine a_aload_n dX6_rankGoods_66 1 rfl rfl ?_
          refine a_getR hZ.1 (hZ.2 17 0 (by decide) Nat.one_pos) fl_X6_24 rfl 0 rfl dX6_rankGoods_67 ?_
          refine a_iload_n dX6_rankGoods_70 0 rfl rfl ?_
          obtain ⟨p7, hF⟩ := gd_some hF
          refine a_iald hZ.1 (s 22 0 (s 20 0 v2.toNatClampNeg).toNatClampNeg) (hZ.2 22 0 (by decide) Nat.one_pos) rfl rfl (inb_vp p7) rfl dX6_rankGoods_71 ?_
          refine a_aload_n dX6_rankGoods_72 1 rfl rfl ?_
          refine a_getR hZ.1 (hZ.2 17 0 (by decide) Nat.one_pos) fl_X6_11 rfl 0 rfl dX6_rankGoods_73 ?_
          refine a_iload_n dX6_rankGoods_76 3 rfl rfl ?_
          obtain ⟨p8, hF⟩ := gd_some hF
          refine a_iald hZ.1 (s 18 0 v2.toNatClampNeg) (hZ.2 18 0 (by decide) Nat.one_pos) rfl rfl (inb_vp p8) rfl dX6_rankGoods_77 ?_
          refine a_bipush (v := (30 : Int32)) dX6_rankGoods_78 (by decide) ?_
          refine a_imul dX6_rankGoods_80 ?_
          refine a_iload_n dX6_rankGoods_81 3 rfl rfl ?_
          refine a_iadd dX6_rankGoods_82 ?_
          refine a_mmin kw_546 kw_473 kw_14 kw_474 ⟨by decide, Nat.le_of_ble_eq_true rfl, Nat.zero_le _, Nat.zero_le _⟩ dX6_rankGoods_83 ?_
          obtain ⟨p9, hF⟩ := gd_some hF
          refine a_iast hZ.1 (hZ.2 22 0 (by decide) Nat.one_pos) rfl rfl (inb_vp p9) dX6_rankGoods_86 ?_
          refine a_loc [(0, .ref (za Z 17 0)), (1, .int a1), (2, .int v2)] [1, 2, 3] rfl ?_
          exact w_X6_rankGoods_87 (l := l) hZ  (F_X6_rankGoods_25 (zg Z) a1 n_) w25_ v2  _ hF
set_option maxRecDepth 100000 in
set_option maxHeartbeats 4000000 in
theorem w_X6_rankGoods_23 {Z : ZE} {l : Launch} (hZ : OkX Z) {a1 : Int32}  {R : Unit × St}    (s : St) (hF : F_X6_rankGoods_23 (zg Z) a1  s = some R) : AW Z l iX6_rankGoods (Pq (rU R)) 0 0 23 [(0, .ref (za Z 17 0)), (1, .int a1)] [] s := by
  unfold F_X6_rankGoods_23 at hF
  refine a_iconst (v := (0 : Int32)) dX6_rankGoods_23 (by decide) ?_
  refine a_istore_n [(2, .int (0 : Int32)), (0, .ref (za Z 17 0)), (1, .int a1)] dX6_rankGoods_24 rfl (by decide) rfl ?_
  refine a_loc [(0, .ref (za Z 17 0)), (1, .int a1), (2, .int (0 : Int32))] [1, 2, 0] rfl ?_
  exact w_X6_rankGoods_25 (l := l) hZ   fu (0 : Int32)  _ hF
set_option maxRecDepth 100000 in
set_option maxHeartbeats 4000000 in
theorem w_X6_rankGoods_2 {Z : ZE} {l : Launch} (hZ : OkX Z) {a1 : Int32}  {R : Unit × St} (h23_ : St → Option (Unit × St)) (w23_ : ∀   (s : St), h23_  s = some R → AW Z l iX6_rankGoods (Pq (rU R)) 0 0 23 [(0, .ref (za Z 17 0)), (1, .int a1)] [] s) : ∀ (n_ : Nat) (v2 : Int32)  (s : St), F_X6_rankGoods_2 (zg Z) a1 h23_ n_ v2 s = some R → AW Z l iX6_rankGoods (Pq (rU R)) 0 0 2 [(0, .ref (za Z 17 0)), (1, .int a1), (2, .int v2)] [] s := by
  intro n_
  induction n_ with
  | zero =>
    intro v2 s hF
    exact absurd hF (by rw [F_X6_rankGoods_2]; exact fun q => by cases q)
  | succ n_ w2_ =>
    intro v2 s hF
    rw [F_X6_rankGoods_2] at hF
    refine a_iload_n dX6_rankGoods_2 2 rfl rfl ?_
    refine a_iconst (v := (4 : Int32)) dX6_rankGoods_3 (by decide) ?_
    refine a_icmp_ge 23 dX6_rankGoods_4 (by decide) (fun q1 => ?_) (fun q1 => ?_)
    · replace hF := (if_pos q1).symm.trans hF
      refine a_loc [(0, .ref (za Z 17 0)), (1, .int a1)] [0, 1] rfl ?_
      exact w23_   _ hF
    · replace hF := (if_neg q1).symm.trans hF
      refine a_aload_n dX6_rankGoods_7 0 rfl rfl ?_
      refine a_getR hZ.1 (hZ.2 17 0 (by decide) Nat.one_pos) fl_X6_24 rfl 0 rfl dX6_rankGoods_8 ?_
      refine a_iload_n dX6_rankGoods_11 2 rfl rfl ?_
      refine a_ldc (v := (1000000 : Int32)) kw_545 dX6_rankGoods_12 ?_
      refine a_iload_n dX6_rankGoods_14 2 rfl rfl ?_
      refine a_iadd dX6_rankGoods_15 ?_
      obtain ⟨p2, hF⟩ := gd_some hF
      refine a_iast hZ.1 (hZ.2 22 0 (by decide) Nat.one_pos) rfl rfl (inb_vp p2) dX6_rankGoods_16 ?_
      refine a_iinc [(2, .int (v2 + 1)), (0, .ref (za Z 17 0)), (1, .int a1)] dX6_rankGoods_17 2 rfl rfl (by decide) rfl ?_
      refine a_goto 2 dX6_rankGoods_20 (by decide) ?_
      refine a_loc [(0, .ref (za Z 17 0)), (1, .int a1), (2, .int (v2 + 1))] [1, 2, 0] rfl ?_
      exact w2_ (v2 + 1)  _ hF
set_option maxRecDepth 100000 in
set_option maxHeartbeats 4000000 in
theorem w_X6_rankGoods {Z : ZE} {l : Launch} (hZ : OkX Z) {a1 : Int32}  {R : Unit × St}    (s : St) (hF : F_X6_rankGoods (zg Z) a1  s = some R) : AW Z l iX6_rankGoods (Pq (rU R)) 0 0 0 [(0, .ref (za Z 17 0)), (1, .int a1)] [] s := by
  unfold F_X6_rankGoods at hF
  refine a_iconst (v := (0 : Int32)) dX6_rankGoods_0 (by decide) ?_
  refine a_istore_n [(2, .int (0 : Int32)), (0, .ref (za Z 17 0)), (1, .int a1)] dX6_rankGoods_1 rfl (by decide) rfl ?_
  refine a_loc [(0, .ref (za Z 17 0)), (1, .int a1), (2, .int (0 : Int32))] [1, 2, 0] rfl ?_
  exact w_X6_rankGoods_2 (l := l) hZ  (F_X6_rankGoods_23 (zg Z) a1 ) (w_X6_rankGoods_23 (l := l) hZ  ) fu (0 : Int32)  _ hF
theorem m_X6_rankGoods {Z : ZE} {l : Launch} (hZ : OkX Z) {a1 : Int32}  {s : St} {R : Unit × St} (hF : F_X6_rankGoods (zg Z) a1 s = some R) : Sp Z l yX6_rankGoods iX6_rankGoods [.ref (za Z 17 0), .int a1] s (rU R) :=
  Sp.of (by decide) rfl (Nat.le_of_ble_eq_true rfl) (w_X6_rankGoods hZ  s hF)
-- X6_orderGoods
set_option maxRecDepth 100000 in
set_option maxHeartbeats 4000000 in
theorem w_X6_orderGoods_73 {Z : ZE} {l : Launch} (hZ : OkX Z) {a1 : Int32}  {R : Int32 × St} (h9_ : Int32 → Int32 → St → Option (Int32 × St)) (w9_ : ∀ (v2 : Int32) (v3 : Int32)  (s : St), h9_ v2 v3 s = some R → AW Z l iX6_orderGoods (Pq (rI R)) 0 0 9 [(0, .ref (za Z 17 0)), (2, .int v2), (3, .int v3)] [] s) (v2 : Int32) (v3 : Int32)  (s : St) (hF : F_X6_orderGoods_73 (zg Z) a1 h9_ v2 v3 s = some R) : AW Z l iX6_orderGoods (Pq (rI R)) 0 0 73 [(0, .ref (za Z 17 0)), (2, .int v2), (3, .int v3)] [] s := by
  unfold F_X6_orderGoods_73 at hF
  refine a_iinc [(3, .int (v3 + 1)), (0, .ref (za Z 17 0)), (2, .int v2)] dX6_orderGoods_73 2 rfl rfl (by decide) rfl ?_
  refine a_goto 9 dX6_orderGoods_76 (by decide) ?_
  refine a_loc [(0, .ref (za Z 17 0)), (2, .int v2), (3, .int (v3 + 1))] [1, 2, 0] rfl ?_
  exact w9_ v2 (v3 + 1)  _ hF
set_option maxRecDepth 100000 in
set_option maxHeartbeats 4000000 in
theorem w_X6_orderGoods_51 {Z : ZE} {l : Launch} (hZ : OkX Z) {a1 : Int32}  {R : Int32 × St} (h9_ : Int32 → Int32 → St → Option (Int32 × St)) (w9_ : ∀ (v2 : Int32) (v3 : Int32)  (s : St), h9_ v2 v3 s = some R → AW Z l iX6_orderGoods (Pq (rI R)) 0 0 9 [(0, .ref (za Z 17 0)), (2, .int v2), (3, .int v3)] [] s) (v2 : Int32) (v3 : Int32) (v4 : Int32)  (s : St) (hF : F_X6_orderGoods_51 (zg Z) a1 h9_ v2 v3 v4 s = some R) : AW Z l iX6_orderGoods (Pq (rI R)) 0 0 51 [(0, .ref (za Z 17 0)), (2, .int v2), (3, .int v3), (4, .int v4)] [] s := by
  unfold F_X6_orderGoods_51 at hF
  refine a_aload_n dX6_orderGoods_51 0 rfl rfl ?_
  refine a_getR hZ.1 (hZ.2 17 0 (by decide) Nat.one_pos) fl_X6_21 rfl 0 rfl dX6_orderGoods_52 ?_
  refine a_iload dX6_orderGoods_55 3 rfl ?_
  refine a_iload_n dX6_orderGoods_57 2 rfl rfl ?_
  obtain ⟨p1, hF⟩ := gd_some hF
  refine a_iast hZ.1 (hZ.2 21 0 (by decide) Nat.one_pos) rfl rfl (inb_vp p1) dX6_orderGoods_58 ?_
  refine a_aload_n dX6_orderGoods_59 0 rfl rfl ?_
  refine a_getR hZ.1 (hZ.2 17 0 (by decide) Nat.one_pos) fl_X6_24 rfl 0 rfl dX6_orderGoods_60 ?_
  refine a_iload_n dX6_orderGoods_63 2 rfl rfl ?_
  obtain ⟨p2, hF⟩ := gd_some hF
  refine a_iald hZ.1 (s 22 0 v3.toNatClampNeg) (hZ.2 22 0 (by decide) Nat.one_pos) rfl rfl (inb_vp p2) rfl dX6_orderGoods_64 ?_
  refine a_ldc (v := (1000000 : Int32)) kw_545 dX6_orderGoods_65 ?_
  refine a_icmp_ge 73 dX6_orderGoods_67 (by decide) (fun q3 => ?_) (fun q3 => ?_)
  · replace hF := (if_pos q3).symm.trans hF
    refine a_loc [(0, .ref (za Z 17 0)), (2, .int v2), (3, .int v3)] [0, 1, 2] rfl ?_
    exact w_X6_orderGoods_73 (l := l) hZ  h9_ w9_ v2 v3  _ hF
  · replace hF := (if_neg q3).symm.trans hF
    refine a_iinc [(2, .int (v2 + 1)), (0, .ref (za Z 17 0)), (3, .int v3), (4, .int v4)] dX6_orderGoods_70 1 rfl rfl (by decide) rfl ?_
    refine a_loc [(0, .ref (za Z 17 0)), (2, .int (v2 + 1)), (3, .int v3)] [1, 0, 2] rfl ?_
    exact w_X6_orderGoods_73 (l := l) hZ  h9_ w9_ (v2 + 1) v3  _ hF
set_option maxRecDepth 100000 in
set_option maxHeartbeats 4000000 in
theorem w_X6_orderGoods_45 {Z : ZE} {l : Launch} (hZ : OkX Z) {a1 : Int32}  {R : Int32 × St} (h20_ : Int32 → Int32 → Int32 → Int32 → St → Option (Int32 × St)) (w20_ : ∀ (v2 : Int32) (v3 : Int32) (v4 : Int32) (v5 : Int32)  (s : St), h20_ v2 v3 v4 v5 s = some R → AW Z l iX6_orderGoods (Pq (rI R)) 0 0 20 [(0, .ref (za Z 17 0)), (2, .int v2), (3, .int v3), (4, .int v4), (5, .int v5)] [] s) (h51_ : Int32 → Int32 → Int32 → St → Option (Int32 × St)) (w51_ : ∀ (v2 : Int32) (v3 : Int32) (v4 : Int32)  (s : St), h51_ v2 v3 v4 s = some R → AW Z l iX6_orderGoods (Pq (rI R)) 0 0 51 [(0, .ref (za Z 17 0)), (2, .int v2), (3, .int v3), (4, .int v4)] [] s) (v2 : Int32) (v3 : Int32) (v4 : Int32) (v5 : Int32)  (s : St) (hF : F_X6_orderGoods_45 (zg Z) a1 h20_ h51_ v2 v3 v4 v5 s = some R) : AW Z l iX6_orderGoods (Pq (rI R)) 0 0 45 [(0, .ref (za Z 17 0)), (2, .int v2), (3, .int v3), (4, .int v4), (5, .int v5)] [] s := by
  unfold F_X6_orderGoods_45 at hF
  refine a_iinc [(5, .int (v5 + 1)), (0, .ref (za Z 17 0)), (2, .int v2), (3, .int v3), (4, .int v4)] dX6_orderGoods_45 4 rfl rfl (by decide) rfl ?_
  refine a_goto 20 dX6_orderGoods_48 (by decide) ?_
  refine a_loc [(0, .ref (za Z 17 0)), (2, .int v2), (3, .int v3), (4, .int v4), (5, .int (v5 + 1))] [1, 2, 3, 4, 0] rfl ?_
  exact w20_ v2 v3 v4 (v5 + 1)  _ hF
set_option maxRecDepth 100000 in
set_option maxHeartbeats 4000000 in
theorem w_X6_orderGoods_20 {Z : ZE} {l : Launch} (hZ : OkX Z) {a1 : Int32}  {R : Int32 × St} (h51_ : Int32 → Int32 → Int32 → St → Option (Int32 × St)) (w51_ : ∀ (v2 : Int32) (v3 : Int32) (v4 : Int32)  (s : St), h51_ v2 v3 v4 s = some R → AW Z l iX6_orderGoods (Pq (rI R)) 0 0 51 [(0, .ref (za Z 17 0)), (2, .int v2), (3, .int v3), (4, .int v4)] [] s) : ∀ (n_ : Nat) (v2 : Int32) (v3 : Int32) (v4 : Int32) (v5 : Int32)  (s : St), F_X6_orderGoods_20 (zg Z) a1 h51_ n_ v2 v3 v4 v5 s = some R → AW Z l iX6_orderGoods (Pq (rI R)) 0 0 20 [(0, .ref (za Z 17 0)), (2, .int v2), (3, .int v3), (4, .int v4), (5, .int v5)] [] s := by
  intro n_
  induction n_ with
  | zero =>
    intro v2 v3 v4 v5 s hF
    exact absurd hF (by rw [F_X6_orderGoods_20]; exact fun q => by cases q)
  | succ n_ w20_ =>
    intro v2 v3 v4 v5 s hF
    rw [F_X6_orderGoods_20] at hF
    refine a_iload dX6_orderGoods_20 4 rfl ?_
    refine a_iconst (v := (4 : Int32)) dX6_orderGoods_22 (by decide) ?_
    refine a_icmp_ge 51 dX6_orderGoods_23 (by decide) (fun q1 => ?_) (fun q1 => ?_)
    · replace hF := (if_pos q1).symm.trans hF
      refine a_loc [(0, .ref (za Z 17 0)), (2, .int v2), (3, .int v3), (4, .int v4)] [0, 1, 2, 3] rfl ?_
      exact w51_ v2 v3 v4  _ hF
    · replace hF := (if_neg q1).symm.trans hF
      refine a_aload_n dX6_orderGoods_26 0 rfl rfl ?_
      refine a_getR hZ.1 (hZ.2 17 0 (by decide) Nat.one_pos) fl_X6_24 rfl 0 rfl dX6_orderGoods_27 ?_
      refine a_iload dX6_orderGoods_30 4 rfl ?_
      obtain ⟨p2, hF⟩ := gd_some hF
      refine a_iald hZ.1 (s 22 0 v5.toNatClampNeg) (hZ.2 22 0 (by decide) Nat.one_pos) rfl rfl (inb_vp p2) rfl dX6_orderGoods_32 ?_
      refine a_aload_n dX6_orderGoods_33 0 rfl rfl ?_
      refine a_getR hZ.1 (hZ.2 17 0 (by decide) Nat.one_pos) fl_X6_24 rfl 0 rfl dX6_orderGoods_34 ?_
      refine a_iload_n dX6_orderGoods_37 2 rfl rfl ?_
      obtain ⟨p3, hF⟩ := gd_some hF
      refine a_iald hZ.1 (s 22 0 v3.toNatClampNeg) (hZ.2 22 0 (by decide) Nat.one_pos) rfl rfl (inb_vp p3) rfl dX6_orderGoods_38 ?_
      refine a_icmp_ge 45 dX6_orderGoods_39 (by decide) (fun q4 => ?_) (fun q4 => ?_)
      · replace hF := (if_pos q4).symm.trans hF
        exact w_X6_orderGoods_45 (l := l) hZ  (F_X6_orderGoods_20 (zg Z) a1 h51_ n_) w20_ h51_ w51_ v2 v3 v4 v5  _ hF
      · replace hF := (if_neg q4).symm.trans hF
        refine a_iinc [(4, .int (v4 + 1)), (0, .ref (za Z 17 0)), (2, .int v2), (3, .int v3), (5, .int v5)] dX6_orderGoods_42 3 rfl rfl (by decide) rfl ?_
        refine a_loc [(0, .ref (za Z 17 0)), (2, .int v2), (3, .int v3), (4, .int (v4 + 1)), (5, .int v5)] [1, 2, 3, 0, 4] rfl ?_
        exact w_X6_orderGoods_45 (l := l) hZ  (F_X6_orderGoods_20 (zg Z) a1 h51_ n_) w20_ h51_ w51_ v2 v3 (v4 + 1) v5  _ hF
set_option maxRecDepth 100000 in
set_option maxHeartbeats 4000000 in
theorem w_X6_orderGoods_9 {Z : ZE} {l : Launch} (hZ : OkX Z) {a1 : Int32}  {R : Int32 × St}  : ∀ (n_ : Nat) (v2 : Int32) (v3 : Int32)  (s : St), F_X6_orderGoods_9 (zg Z) a1 n_ v2 v3 s = some R → AW Z l iX6_orderGoods (Pq (rI R)) 0 0 9 [(0, .ref (za Z 17 0)), (2, .int v2), (3, .int v3)] [] s := by
  intro n_
  induction n_ with
  | zero =>
    intro v2 v3 s hF
    exact absurd hF (by rw [F_X6_orderGoods_9]; exact fun q => by cases q)
  | succ n_ w9_ =>
    intro v2 v3 s hF
    rw [F_X6_orderGoods_9] at hF
    refine a_iload_n dX6_orderGoods_9 2 rfl rfl ?_
    refine a_iconst (v := (4 : Int32)) dX6_orderGoods_10 (by decide) ?_
    refine a_icmp_ge 79 dX6_orderGoods_11 (by decide) (fun q1 => ?_) (fun q1 => ?_)
    · replace hF := (if_pos q1).symm.trans hF
      refine a_iload_n dX6_orderGoods_79 1 rfl rfl ?_
      replace hF := Option.some.inj hF
      subst hF
      exact a_iret rfl (Nat.zero_le _) (Nat.zero_le _) dX6_orderGoods_80 ⟨rfl, rfl⟩
    · replace hF := (if_neg q1).symm.trans hF
      refine a_iconst (v := (0 : Int32)) dX6_orderGoods_14 (by decide) ?_
      refine a_istore [(4, .int (0 : Int32)), (0, .ref (za Z 17 0)), (2, .int v2), (3, .int v3)] dX6_orderGoods_15 (by decide) rfl ?_
      refine a_iconst (v := (0 : Int32)) dX6_orderGoods_17 (by decide) ?_
      refine a_istore [(5, .int (0 : Int32)), (4, .int (0 : Int32)), (0, .ref (za Z 17 0)), (2, .int v2), (3, .int v3)] dX6_orderGoods_18 (by decide) rfl ?_
      refine a_loc [(0, .ref (za Z 17 0)), (2, .int v2), (3, .int v3), (4, .int (0 : Int32)), (5, .int (0 : Int32))] [2, 3, 4, 1, 0] rfl ?_
      exact w_X6_orderGoods_20 (l := l) hZ  (F_X6_orderGoods_51 (zg Z) a1 (F_X6_orderGoods_9 (zg Z) a1 n_)) (w_X6_orderGoods_51 (l := l) hZ  (F_X6_orderGoods_9 (zg Z) a1 n_) w9_) fu v2 v3 (0 : Int32) (0 : Int32)  _ hF
set_option maxRecDepth 100000 in
set_option maxHeartbeats 4000000 in
theorem w_X6_orderGoods {Z : ZE} {l : Launch} (hZ : OkX Z) {a1 : Int32}  {R : Int32 × St}    (s : St) (hF : F_X6_orderGoods (zg Z) a1  s = some R) : AW Z l iX6_orderGoods (Pq (rI R)) 0 0 0 [(0, .ref (za Z 17 0)), (1, .int a1)] [] s := by
  unfold F_X6_orderGoods at hF
  refine a_aload_n dX6_orderGoods_0 0 rfl rfl ?_
  refine a_iload_n dX6_orderGoods_1 1 rfl rfl ?_
  obtain ⟨r2, s2, e2, hF⟩ := bd_some hF
  refine a_invV hZ.1 (As := [.int a1]) (rest := []) (hZ.2 17 0 (by decide) Nat.one_pos) lk_X6_38 ⟨⟨by decide, by decide⟩, by decide, by decide⟩ rfl (Nat.le_of_ble_eq_true rfl) dX6_orderGoods_2 (m_X6_rankGoods hZ  e2) ?_
  show AW Z l iX6_orderGoods (Pq (rI R)) 0 0 5 [(0, .ref (za Z 17 0)), (1, .int a1)] [] s2
  refine a_iconst (v := (0 : Int32)) dX6_orderGoods_5 (by decide) ?_
  refine a_istore_n [(2, .int (0 : Int32)), (0, .ref (za Z 17 0)), (1, .int a1)] dX6_orderGoods_6 rfl (by decide) rfl ?_
  refine a_iconst (v := (0 : Int32)) dX6_orderGoods_7 (by decide) ?_
  refine a_istore_n [(3, .int (0 : Int32)), (2, .int (0 : Int32)), (0, .ref (za Z 17 0)), (1, .int a1)] dX6_orderGoods_8 rfl (by decide) rfl ?_
  refine a_loc [(0, .ref (za Z 17 0)), (2, .int (0 : Int32)), (3, .int (0 : Int32))] [2, 1, 0] rfl ?_
  exact w_X6_orderGoods_9 (l := l) hZ   fu (0 : Int32) (0 : Int32)  _ hF
theorem m_X6_orderGoods {Z : ZE} {l : Launch} (hZ : OkX Z) {a1 : Int32}  {s : St} {R : Int32 × St} (hF : F_X6_orderGoods (zg Z) a1 s = some R) : Sp Z l yX6_orderGoods iX6_orderGoods [.ref (za Z 17 0), .int a1] s (rI R) :=
  Sp.of (by decide) rfl (Nat.le_of_ble_eq_true rfl) (w_X6_orderGoods hZ  s hF)
-- X10_first
set_option maxRecDepth 100000 in
set_option maxHeartbeats 4000000 in
theorem w_X10_first {Z : ZE} {l : Launch} (hZ : OkX Z) {a1 : Int32} {a2 : Int32}  {R : Int32 × St}    (s : St) (hF : F_X10_first (zg Z) a1 a2  s = some R) : AW Z l iX10_first (Pq (rI R)) 0 0 0 [(0, .ref (za Z 0 0)), (1, .int a1), (2, .int a2)] [] s := by
  unfold F_X10_first at hF
  refine a_iload_n dX10_first_0 1 rfl rfl ?_
  obtain ⟨r1, s1, e1, hF⟩ := bd_some hF
  refine a_invS hZ.1 (As := [.int a1]) (rest := []) lk_X10_142 ⟨⟨by decide, by decide⟩, by decide, by decide⟩ rfl (Nat.le_of_ble_eq_true rfl) dX10_first_1 (m_X10_isWeek hZ  e1) ?_
  show AW Z l iX10_first (Pq (rI R)) 0 0 4 [(0, .ref (za Z 0 0)), (1, .int a1), (2, .int a2)] [.int r1] s1
  refine a_if_ne 10 dX10_first_4 (by decide) (fun q1 => ?_) (fun q1 => ?_)
  · replace hF := (if_neg q1).symm.trans hF
    refine a_iload_n dX10_first_10 2 rfl rfl ?_
    refine a_iconst (v := (0 : Int32)) dX10_first_11 (by decide) ?_
    refine a_aload_n dX10_first_12 0 rfl rfl ?_
    refine a_getR hZ.1 (hZ.2 0 0 (by decide) Nat.one_pos) fl_X10_25 rfl 0 rfl dX10_first_13 ?_
    refine a_iload_n dX10_first_16 1 rfl rfl ?_
    obtain ⟨r17, s17, e17, hF⟩ := bd_some hF
    refine a_invV hZ.1 (As := [.int a1]) (rest := [.int (0 : Int32), .int a2]) (hZ.2 17 0 (by decide) Nat.one_pos) lk_X10_227 ⟨⟨by decide, by decide⟩, by decide, by decide⟩ rfl (Nat.le_of_ble_eq_true rfl) dX10_first_17 (m_X6_orderGoods hZ  e17) ?_
    show AW Z l iX10_first (Pq (rI R)) 0 0 20 [(0, .ref (za Z 0 0)), (1, .int a1), (2, .int a2)] [.int r17, .int (0 : Int32), .int a2] s17
    refine a_iconst (v := (1 : Int32)) dX10_first_20 (by decide) ?_
    refine a_isub dX10_first_21 ?_
    obtain ⟨r22, s22, e22, hF⟩ := bd_some hF
    refine a_invS hZ.1 (As := [.int a2, .int (0 : Int32), .int (r17 - (1 : Int32))]) (rest := []) lk_X10_75 ⟨⟨by decide, by decide⟩, by decide, by decide⟩ rfl (Nat.le_of_ble_eq_true rfl) dX10_first_22 (m_X10_within hZ  e22) ?_
    show AW Z l iX10_first (Pq (rI R)) 0 0 25 [(0, .ref (za Z 0 0)), (1, .int a1), (2, .int a2)] [.int r22] s22
    refine a_if_eq 40 dX10_first_25 (by decide) (fun q2 => ?_) (fun q2 => ?_)
    · replace hF := (if_pos q2).symm.trans hF
      refine a_ldc (v := (-1000000)) kw_553 dX10_first_40 ?_
      replace hF := Option.some.inj hF
      subst hF
      exact a_iret rfl (Nat.zero_le _) (Nat.zero_le _) dX10_first_42 ⟨rfl, rfl⟩
    · replace hF := (if_neg q2).symm.trans hF
      refine a_aload_n dX10_first_28 0 rfl rfl ?_
      refine a_getR hZ.1 (hZ.2 0 0 (by decide) Nat.one_pos) fl_X10_25 rfl 0 rfl dX10_first_29 ?_
      refine a_getR hZ.1 (hZ.2 17 0 (by decide) Nat.one_pos) fl_X10_230 rfl 0 rfl dX10_first_32 ?_
      refine a_iload_n dX10_first_35 2 rfl rfl ?_
      obtain ⟨p3, hF⟩ := gd_some hF
      refine a_iald hZ.1 (s22 21 0 a2.toNatClampNeg) (hZ.2 21 0 (by decide) Nat.one_pos) rfl rfl (inb_vp p3) rfl dX10_first_36 ?_
      refine a_goto 42 dX10_first_37 (by decide) ?_
      replace hF := Option.some.inj hF
      subst hF
      exact a_iret rfl (Nat.zero_le _) (Nat.zero_le _) dX10_first_42 ⟨rfl, rfl⟩
  · replace hF := (if_pos q1).symm.trans hF
    refine a_ldc (v := (-1000001)) kw_324 dX10_first_7 ?_
    replace hF := Option.some.inj hF
    subst hF
    exact a_iret rfl (Nat.zero_le _) (Nat.zero_le _) dX10_first_9 ⟨rfl, rfl⟩
theorem m_X10_first {Z : ZE} {l : Launch} (hZ : OkX Z) {a1 : Int32} {a2 : Int32}  {s : St} {R : Int32 × St} (hF : F_X10_first (zg Z) a1 a2 s = some R) : Sp Z l yX10_first iX10_first [.ref (za Z 0 0), .int a1, .int a2] s (rI R) :=
  Sp.of (by decide) rfl (Nat.le_of_ble_eq_true rfl) (w_X10_first hZ  s hF)
-- X6_firstSet
set_option maxRecDepth 100000 in
set_option maxHeartbeats 4000000 in
theorem w_X6_firstSet_11 {Z : ZE} {l : Launch} (hZ : OkX Z) {a1 : Int32}  {R : Int32 × St}  : ∀ (n_ : Nat) (v2 : Int32) (v3 : Int32) (v4 : Int32)  (s : St), F_X6_firstSet_11 (zg Z) a1 n_ v2 v3 v4 s = some R → AW Z l iX6_firstSet (Pq (rI R)) 0 0 11 [(0, .ref (za Z 17 0)), (2, .int v2), (3, .int v3), (4, .int v4)] [] s := by
  intro n_
  induction n_ with
  | zero =>
    intro v2 v3 v4 s hF
    exact absurd hF (by rw [F_X6_firstSet_11]; exact fun q => by cases q)
  | succ n_ w11_ =>
    intro v2 v3 v4 s hF
    rw [F_X6_firstSet_11] at hF
    refine a_iload dX6_firstSet_11 3 rfl ?_
    refine a_iload_n dX6_firstSet_13 1 rfl rfl ?_
    refine a_icmp_ge 35 dX6_firstSet_14 (by decide) (fun q1 => ?_) (fun q1 => ?_)
    · replace hF := (if_pos q1).symm.trans hF
      refine a_iload_n dX6_firstSet_35 2 rfl rfl ?_
      replace hF := Option.some.inj hF
      subst hF
      exact a_iret rfl (Nat.zero_le _) (Nat.zero_le _) dX6_firstSet_36 ⟨rfl, rfl⟩
    · replace hF := (if_neg q1).symm.trans hF
      refine a_iload_n dX6_firstSet_17 2 rfl rfl ?_
      refine a_iconst (v := (1 : Int32)) dX6_firstSet_18 (by decide) ?_
      refine a_aload_n dX6_firstSet_19 0 rfl rfl ?_
      refine a_getR hZ.1 (hZ.2 17 0 (by decide) Nat.one_pos) fl_X6_21 rfl 0 rfl dX6_firstSet_20 ?_
      refine a_iload dX6_firstSet_23 3 rfl ?_
      obtain ⟨p2, hF⟩ := gd_some hF
      refine a_iald hZ.1 (s 21 0 v4.toNatClampNeg) (hZ.2 21 0 (by decide) Nat.one_pos) rfl rfl (inb_vp p2) rfl dX6_firstSet_25 ?_
      refine a_ishl dX6_firstSet_26 ?_
      refine a_ior dX6_firstSet_27 ?_
      refine a_istore_n [(3, .int (v3 ||| ((1 : Int32) <<< ((s 21 0 v4.toNatClampNeg) &&& 31)))), (0, .ref (za Z 17 0)), (2, .int v2), (4, .int v4)] dX6_firstSet_28 rfl (by decide) rfl ?_
      refine a_iinc [(4, .int (v4 + 1)), (3, .int (v3 ||| ((1 : Int32) <<< ((s 21 0 v4.toNatClampNeg) &&& 31)))), (0, .ref (za Z 17 0)), (2, .int v2)] dX6_firstSet_29 3 rfl rfl (by decide) rfl ?_
      refine a_goto 11 dX6_firstSet_32 (by decide) ?_
      refine a_loc [(0, .ref (za Z 17 0)), (2, .int v2), (3, .int (v3 ||| ((1 : Int32) <<< ((s 21 0 v4.toNatClampNeg) &&& 31)))), (4, .int (v4 + 1))] [2, 3, 1, 0] rfl ?_
      exact w11_ v2 (v3 ||| ((1 : Int32) <<< ((s 21 0 v4.toNatClampNeg) &&& 31))) (v4 + 1)  _ hF
set_option maxRecDepth 100000 in
set_option maxHeartbeats 4000000 in
theorem w_X6_firstSet {Z : ZE} {l : Launch} (hZ : OkX Z) {a1 : Int32}  {R : Int32 × St}    (s : St) (hF : F_X6_firstSet (zg Z) a1  s = some R) : AW Z l iX6_firstSet (Pq (rI R)) 0 0 0 [(0, .ref (za Z 17 0)), (1, .int a1)] [] s := by
  unfold F_X6_firstSet at hF
  refine a_aload_n dX6_firstSet_0 0 rfl rfl ?_
  refine a_iload_n dX6_firstSet_1 1 rfl rfl ?_
  obtain ⟨r2, s2, e2, hF⟩ := bd_some hF
  refine a_invV hZ.1 (As := [.int a1]) (rest := []) (hZ.2 17 0 (by decide) Nat.one_pos) lk_X6_49 ⟨⟨by decide, by decide⟩, by decide, by decide⟩ rfl (Nat.le_of_ble_eq_true rfl) dX6_firstSet_2 (m_X6_orderGoods hZ  e2) ?_
  show AW Z l iX6_firstSet (Pq (rI R)) 0 0 5 [(0, .ref (za Z 17 0)), (1, .int a1)] [.int r2] s2
  refine a_istore_n [(2, .int r2), (0, .ref (za Z 17 0)), (1, .int a1)] dX6_firstSet_5 rfl (by decide) rfl ?_
  refine a_iconst (v := (0 : Int32)) dX6_firstSet_6 (by decide) ?_
  refine a_istore_n [(3, .int (0 : Int32)), (2, .int r2), (0, .ref (za Z 17 0)), (1, .int a1)] dX6_firstSet_7 rfl (by decide) rfl ?_
  refine a_iconst (v := (0 : Int32)) dX6_firstSet_8 (by decide) ?_
  refine a_istore [(4, .int (0 : Int32)), (3, .int (0 : Int32)), (2, .int r2), (0, .ref (za Z 17 0)), (1, .int a1)] dX6_firstSet_9 (by decide) rfl ?_
  refine a_loc [(0, .ref (za Z 17 0)), (2, .int r2), (3, .int (0 : Int32)), (4, .int (0 : Int32))] [3, 2, 1, 0] rfl ?_
  exact w_X6_firstSet_11 (l := l) hZ   fu r2 (0 : Int32) (0 : Int32)  _ hF
theorem m_X6_firstSet {Z : ZE} {l : Launch} (hZ : OkX Z) {a1 : Int32}  {s : St} {R : Int32 × St} (hF : F_X6_firstSet (zg Z) a1 s = some R) : Sp Z l yX6_firstSet iX6_firstSet [.ref (za Z 17 0), .int a1] s (rI R) :=
  Sp.of (by decide) rfl (Nat.le_of_ble_eq_true rfl) (w_X6_firstSet hZ  s hF)
-- X10_holds
set_option maxRecDepth 100000 in
set_option maxHeartbeats 4000000 in
theorem w_X10_holds {Z : ZE} {l : Launch} (hZ : OkX Z) {a1 : Int32} {a2 : Int32}  {R : Int32 × St}    (s : St) (hF : F_X10_holds (zg Z) a1 a2  s = some R) : AW Z l iX10_holds (Pq (rI R)) 0 0 0 [(0, .ref (za Z 0 0)), (1, .int a1), (2, .int a2)] [] s := by
  unfold F_X10_holds at hF
  refine a_iload_n dX10_holds_0 1 rfl rfl ?_
  obtain ⟨r1, s1, e1, hF⟩ := bd_some hF
  refine a_invS hZ.1 (As := [.int a1]) (rest := []) lk_X10_142 ⟨⟨by decide, by decide⟩, by decide, by decide⟩ rfl (Nat.le_of_ble_eq_true rfl) dX10_holds_1 (m_X10_isWeek hZ  e1) ?_
  show AW Z l iX10_holds (Pq (rI R)) 0 0 4 [(0, .ref (za Z 0 0)), (1, .int a1), (2, .int a2)] [.int r1] s1
  refine a_if_ne 10 dX10_holds_4 (by decide) (fun q1 => ?_) (fun q1 => ?_)
  · replace hF := (if_neg q1).symm.trans hF
    refine a_iload_n dX10_holds_10 2 rfl rfl ?_
    refine a_bipush (v := (10 : Int32)) dX10_holds_11 (by decide) ?_
    refine a_bipush (v := (13 : Int32)) dX10_holds_13 (by decide) ?_
    obtain ⟨r15, s15, e15, hF⟩ := bd_some hF
    refine a_invS hZ.1 (As := [.int a2, .int (10 : Int32), .int (13 : Int32)]) (rest := []) lk_X10_75 ⟨⟨by decide, by decide⟩, by decide, by decide⟩ rfl (Nat.le_of_ble_eq_true rfl) dX10_holds_15 (m_X10_within hZ  e15) ?_
    show AW Z l iX10_holds (Pq (rI R)) 0 0 18 [(0, .ref (za Z 0 0)), (1, .int a1), (2, .int a2)] [.int r15] s15
    refine a_if_eq 31 dX10_holds_18 (by decide) (fun q2 => ?_) (fun q2 => ?_)
    · replace hF := (if_pos q2).symm.trans hF
      refine a_iload_n dX10_holds_31 2 rfl rfl ?_
      refine a_bipush (v := (7 : Int32)) dX10_holds_32 (by decide) ?_
      refine a_icmp_ne 46 dX10_holds_34 (by decide) (fun q3 => ?_) (fun q3 => ?_)
      · replace hF := (if_neg q3).symm.trans hF
        refine a_iload_n dX10_holds_46 2 rfl rfl ?_
        refine a_iconst (v := (0 : Int32)) dX10_holds_47 (by decide) ?_
        refine a_bipush (v := (6 : Int32)) dX10_holds_48 (by decide) ?_
        obtain ⟨r50, s50, e50, hF⟩ := bd_some hF
        refine a_invS hZ.1 (As := [.int a2, .int (0 : Int32), .int (6 : Int32)]) (rest := []) lk_X10_75 ⟨⟨by decide, by decide⟩, by decide, by decide⟩ rfl (Nat.le_of_ble_eq_true rfl) dX10_holds_50 (m_X10_within hZ  e50) ?_
        show AW Z l iX10_holds (Pq (rI R)) 0 0 53 [(0, .ref (za Z 0 0)), (1, .int a1), (2, .int a2)] [.int r50] s50
        refine a_if_eq 68 dX10_holds_53 (by decide) (fun q4 => ?_) (fun q4 => ?_)
        · replace hF := (if_pos q4).symm.trans hF
          refine a_ldc (v := (-1000001)) kw_324 dX10_holds_68 ?_
          replace hF := Option.some.inj hF
          subst hF
          exact a_iret rfl (Nat.zero_le _) (Nat.zero_le _) dX10_holds_70 ⟨rfl, rfl⟩
        · replace hF := (if_neg q4).symm.trans hF
          refine a_aload_n dX10_holds_56 0 rfl rfl ?_
          refine a_getR hZ.1 (hZ.2 0 0 (by decide) Nat.one_pos) fl_X10_25 rfl 0 rfl dX10_holds_57 ?_
          refine a_iload_n dX10_holds_60 1 rfl rfl ?_
          refine a_iload_n dX10_holds_61 2 rfl rfl ?_
          obtain ⟨r62, s62, e62, hF⟩ := bd_some hF
          refine a_invV hZ.1 (As := [.int a1, .int a2]) (rest := []) (hZ.2 17 0 (by decide) Nat.one_pos) lk_X10_224 ⟨⟨by decide, by decide⟩, by decide, by decide⟩ rfl (Nat.le_of_ble_eq_true rfl) dX10_holds_62 (m_X6_inForce hZ  e62) ?_
          show AW Z l iX10_holds (Pq (rI R)) 0 0 65 [(0, .ref (za Z 0 0)), (1, .int a1), (2, .int a2)] [.int r62] s62
          refine a_goto 70 dX10_holds_65 (by decide) ?_
          replace hF := Option.some.inj hF
          subst hF
          exact a_iret rfl (Nat.zero_le _) (Nat.zero_le _) dX10_holds_70 ⟨rfl, rfl⟩
      · replace hF := (if_pos q3).symm.trans hF
        refine a_aload_n dX10_holds_37 0 rfl rfl ?_
        refine a_getR hZ.1 (hZ.2 0 0 (by decide) Nat.one_pos) fl_X10_25 rfl 0 rfl dX10_holds_38 ?_
        refine a_iload_n dX10_holds_41 1 rfl rfl ?_
        obtain ⟨r42, s42, e42, hF⟩ := bd_some hF
        refine a_invV hZ.1 (As := [.int a1]) (rest := []) (hZ.2 17 0 (by decide) Nat.one_pos) lk_X10_221 ⟨⟨by decide, by decide⟩, by decide, by decide⟩ rfl (Nat.le_of_ble_eq_true rfl) dX10_holds_42 (m_X6_firstSet hZ  e42) ?_
        show AW Z l iX10_holds (Pq (rI R)) 0 0 45 [(0, .ref (za Z 0 0)), (1, .int a1), (2, .int a2)] [.int r42] s42
        replace hF := Option.some.inj hF
        subst hF
        exact a_iret rfl (Nat.zero_le _) (Nat.zero_le _) dX10_holds_45 ⟨rfl, rfl⟩
    · replace hF := (if_neg q2).symm.trans hF
      refine a_aload_n dX10_holds_21 0 rfl rfl ?_
      refine a_iload_n dX10_holds_22 2 rfl rfl ?_
      refine a_bipush (v := (10 : Int32)) dX10_holds_23 (by decide) ?_
      refine a_isub dX10_holds_25 ?_
      refine a_iload_n dX10_holds_26 1 rfl rfl ?_
      obtain ⟨r27, s27, e27, hF⟩ := bd_some hF
      refine a_invV hZ.1 (As := [.int (a2 - (10 : Int32)), .int a1]) (rest := []) (hZ.2 0 0 (by decide) Nat.one_pos) lk_X10_218 ⟨⟨by decide, by decide⟩, by decide, by decide⟩ rfl (Nat.le_of_ble_eq_true rfl) dX10_holds_27 (m_X10_earned hZ  e27) ?_
      show AW Z l iX10_holds (Pq (rI R)) 0 0 30 [(0, .ref (za Z 0 0)), (1, .int a1), (2, .int a2)] [.int r27] s27
      replace hF := Option.some.inj hF
      subst hF
      exact a_iret rfl (Nat.zero_le _) (Nat.zero_le _) dX10_holds_30 ⟨rfl, rfl⟩
  · replace hF := (if_pos q1).symm.trans hF
    refine a_ldc (v := (-1000001)) kw_324 dX10_holds_7 ?_
    replace hF := Option.some.inj hF
    subst hF
    exact a_iret rfl (Nat.zero_le _) (Nat.zero_le _) dX10_holds_9 ⟨rfl, rfl⟩
theorem m_X10_holds {Z : ZE} {l : Launch} (hZ : OkX Z) {a1 : Int32} {a2 : Int32}  {s : St} {R : Int32 × St} (hF : F_X10_holds (zg Z) a1 a2 s = some R) : Sp Z l yX10_holds iX10_holds [.ref (za Z 0 0), .int a1, .int a2] s (rI R) :=
  Sp.of (by decide) rfl (Nat.le_of_ble_eq_true rfl) (w_X10_holds hZ  s hF)
-- X10_homeItemsFit
set_option maxRecDepth 100000 in
set_option maxHeartbeats 4000000 in
theorem w_X10_homeItemsFit_110 {Z : ZE} {l : Launch} (hZ : OkX Z) {t0 : Nat} {k0 : Nat} {a1 : Int32} (hx0 : zx Z t0 k0) (ho0 : shO t0 = none) (ha0 : shA t0 = some (lna t0)) {R : Int32 × St} (h79_ : Int32 → Int32 → St → Option (Int32 × St)) (w79_ : ∀ (v2 : Int32) (v3 : Int32)  (s : St), h79_ v2 v3 s = some R → AW Z l iX10_homeItemsFit (Pq (rI R)) 0 0 79 [(0, .ref (za Z t0 k0)), (1, .int a1), (2, .int v2), (3, .int v3)] [] s) (v3 : Int32) (x0 : Int32)  (s : St) (hF : F_X10_homeItemsFit_110 (zg Z) t0 k0 a1 h79_ v3 x0 s = some R) : AW Z l iX10_homeItemsFit (Pq (rI R)) 0 0 110 [(0, .ref (za Z t0 k0)), (1, .int a1), (3, .int v3)] [.int x0] s := by
  unfold F_X10_homeItemsFit_110 at hF
  refine a_istore_n [(2, .int x0), (0, .ref (za Z t0 k0)), (1, .int a1), (3, .int v3)] dX10_homeItemsFit_110 rfl (by decide) rfl ?_
  refine a_iinc [(3, .int (v3 + 1)), (2, .int x0), (0, .ref (za Z t0 k0)), (1, .int a1)] dX10_homeItemsFit_111 3 rfl rfl (by decide) rfl ?_
  refine a_goto 79 dX10_homeItemsFit_114 (by decide) ?_
  refine a_loc [(0, .ref (za Z t0 k0)), (1, .int a1), (2, .int x0), (3, .int (v3 + 1))] [2, 3, 1, 0] rfl ?_
  exact w79_ x0 (v3 + 1)  _ hF
set_option maxRecDepth 100000 in
set_option maxHeartbeats 4000000 in
theorem w_X10_homeItemsFit_109 {Z : ZE} {l : Launch} (hZ : OkX Z) {t0 : Nat} {k0 : Nat} {a1 : Int32} (hx0 : zx Z t0 k0) (ho0 : shO t0 = none) (ha0 : shA t0 = some (lna t0)) {R : Int32 × St} (h79_ : Int32 → Int32 → St → Option (Int32 × St)) (w79_ : ∀ (v2 : Int32) (v3 : Int32)  (s : St), h79_ v2 v3 s = some R → AW Z l iX10_homeItemsFit (Pq (rI R)) 0 0 79 [(0, .ref (za Z t0 k0)), (1, .int a1), (2, .int v2), (3, .int v3)] [] s) (v3 : Int32)  (s : St) (hF : F_X10_homeItemsFit_109 (zg Z) t0 k0 a1 h79_ v3 s = some R) : AW Z l iX10_homeItemsFit (Pq (rI R)) 0 0 109 [(0, .ref (za Z t0 k0)), (1, .int a1), (3, .int v3)] [] s := by
  unfold F_X10_homeItemsFit_109 at hF
  refine a_iconst (v := (0 : Int32)) dX10_homeItemsFit_109 (by decide) ?_
  exact w_X10_homeItemsFit_110 (l := l) hZ hx0 ho0 ha0 h79_ w79_ v3 (0 : Int32)  _ hF
set_option maxRecDepth 100000 in
set_option maxHeartbeats 4000000 in
theorem w_X10_homeItemsFit_79 {Z : ZE} {l : Launch} (hZ : OkX Z) {t0 : Nat} {k0 : Nat} {a1 : Int32} (hx0 : zx Z t0 k0) (ho0 : shO t0 = none) (ha0 : shA t0 = some (lna t0)) {R : Int32 × St}  : ∀ (n_ : Nat) (v2 : Int32) (v3 : Int32)  (s : St), F_X10_homeItemsFit_79 (zg Z) t0 k0 a1 n_ v2 v3 s = some R → AW Z l iX10_homeItemsFit (Pq (rI R)) 0 0 79 [(0, .ref (za Z t0 k0)), (1, .int a1), (2, .int v2), (3, .int v3)] [] s := by
  intro n_
  induction n_ with
  | zero =>
    intro v2 v3 s hF
    exact absurd hF (by rw [F_X10_homeItemsFit_79]; exact fun q => by cases q)
  | succ n_ w79_ =>
    intro v2 v3 s hF
    rw [F_X10_homeItemsFit_79] at hF
    refine a_iload_n dX10_homeItemsFit_79 3 rfl rfl ?_
    refine a_iconst (v := (4 : Int32)) dX10_homeItemsFit_80 (by decide) ?_
    refine a_icmp_ge 117 dX10_homeItemsFit_81 (by decide) (fun q1 => ?_) (fun q1 => ?_)
    · replace hF := (if_pos q1).symm.trans hF
      refine a_iload_n dX10_homeItemsFit_117 2 rfl rfl ?_
      obtain ⟨p2, hF⟩ := gd_some hF
      replace hF := Option.some.inj hF
      subst hF
      exact a_zret rfl (isb_n p2) (Nat.zero_le _) (Nat.zero_le _) dX10_homeItemsFit_118 ⟨rfl, rfl⟩
    · replace hF := (if_neg q1).symm.trans hF
      refine a_iload_n dX10_homeItemsFit_84 2 rfl rfl ?_
      refine a_if_eq 109 dX10_homeItemsFit_85 (by decide) (fun q3 => ?_) (fun q3 => ?_)
      · replace hF := (if_pos q3).symm.trans hF
        refine a_loc [(0, .ref (za Z t0 k0)), (1, .int a1), (3, .int v3)] [0, 1, 3] rfl ?_
        exact w_X10_homeItemsFit_109 (l := l) hZ hx0 ho0 ha0 (F_X10_homeItemsFit_79 (zg Z) t0 k0 a1 n_) w79_ v3  _ hF
      · replace hF := (if_neg q3).symm.trans hF
        refine a_aload_n dX10_homeItemsFit_88 0 rfl rfl ?_
        refine a_iload_n dX10_homeItemsFit_89 1 rfl rfl ?_
        refine a_iconst (v := (5 : Int32)) dX10_homeItemsFit_90 (by decide) ?_
        refine a_iadd dX10_homeItemsFit_91 ?_
        refine a_iload_n dX10_homeItemsFit_92 3 rfl rfl ?_
        refine a_iadd dX10_homeItemsFit_93 ?_
        obtain ⟨p4, hF⟩ := gd_some hF
        refine a_iald hZ.1 (s t0 k0 ((a1 + (5 : Int32)) + v3).toNatClampNeg) hx0 ho0 ha0 (inb_vp p4) rfl dX10_homeItemsFit_94 ?_
        refine a_iconst (v := (0 : Int32)) dX10_homeItemsFit_95 (by decide) ?_
        refine a_sipush (v := (999 : Int32)) dX10_homeItemsFit_96 (by decide) ?_
        obtain ⟨r99, s99, e99, hF⟩ := bd_some hF
        refine a_invS hZ.1 (As := [.int (s t0 k0 ((a1 + (5 : Int32)) + v3).toNatClampNeg), .int (0 : Int32), .int (999 : Int32)]) (rest := []) lk_X10_75 ⟨⟨by decide, by decide⟩, by decide, by decide⟩ rfl (Nat.le_of_ble_eq_true rfl) dX10_homeItemsFit_99 (m_X10_within hZ  e99) ?_
        show AW Z l iX10_homeItemsFit (Pq (rI R)) 0 0 102 [(0, .ref (za Z t0 k0)), (1, .int a1), (2, .int v2), (3, .int v3)] [.int r99] s99
        refine a_if_eq 109 dX10_homeItemsFit_102 (by decide) (fun q5 => ?_) (fun q5 => ?_)
        · replace hF := (if_pos q5).symm.trans hF
          refine a_loc [(0, .ref (za Z t0 k0)), (1, .int a1), (3, .int v3)] [0, 1, 3] rfl ?_
          exact w_X10_homeItemsFit_109 (l := l) hZ hx0 ho0 ha0 (F_X10_homeItemsFit_79 (zg Z) t0 k0 a1 n_) w79_ v3  _ hF
        · replace hF := (if_neg q5).symm.trans hF
          refine a_iconst (v := (1 : Int32)) dX10_homeItemsFit_105 (by decide) ?_
          refine a_goto 110 dX10_homeItemsFit_106 (by decide) ?_
          refine a_loc [(0, .ref (za Z t0 k0)), (1, .int a1), (3, .int v3)] [0, 1, 3] rfl ?_
          exact w_X10_homeItemsFit_110 (l := l) hZ hx0 ho0 ha0 (F_X10_homeItemsFit_79 (zg Z) t0 k0 a1 n_) w79_ v3 (1 : Int32)  _ hF
set_option maxRecDepth 100000 in
set_option maxHeartbeats 4000000 in
theorem w_X10_homeItemsFit_76 {Z : ZE} {l : Launch} (hZ : OkX Z) {t0 : Nat} {k0 : Nat} {a1 : Int32} (hx0 : zx Z t0 k0) (ho0 : shO t0 = none) (ha0 : shA t0 = some (lna t0)) {R : Int32 × St}  (x0 : Int32)  (s : St) (hF : F_X10_homeItemsFit_76 (zg Z) t0 k0 a1 x0 s = some R) : AW Z l iX10_homeItemsFit (Pq (rI R)) 0 0 76 [(0, .ref (za Z t0 k0)), (1, .int a1)] [.int x0] s := by
  unfold F_X10_homeItemsFit_76 at hF
  refine a_istore_n [(2, .int x0), (0, .ref (za Z t0 k0)), (1, .int a1)] dX10_homeItemsFit_76 rfl (by decide) rfl ?_
  refine a_iconst (v := (0 : Int32)) dX10_homeItemsFit_77 (by decide) ?_
  refine a_istore_n [(3, .int (0 : Int32)), (2, .int x0), (0, .ref (za Z t0 k0)), (1, .int a1)] dX10_homeItemsFit_78 rfl (by decide) rfl ?_
  refine a_loc [(0, .ref (za Z t0 k0)), (1, .int a1), (2, .int x0), (3, .int (0 : Int32))] [2, 3, 1, 0] rfl ?_
  exact w_X10_homeItemsFit_79 (l := l) hZ hx0 ho0 ha0  fu x0 (0 : Int32)  _ hF
set_option maxRecDepth 100000 in
set_option maxHeartbeats 4000000 in
theorem w_X10_homeItemsFit_75 {Z : ZE} {l : Launch} (hZ : OkX Z) {t0 : Nat} {k0 : Nat} {a1 : Int32} (hx0 : zx Z t0 k0) (ho0 : shO t0 = none) (ha0 : shA t0 = some (lna t0)) {R : Int32 × St}    (s : St) (hF : F_X10_homeItemsFit_75 (zg Z) t0 k0 a1  s = some R) : AW Z l iX10_homeItemsFit (Pq (rI R)) 0 0 75 [(0, .ref (za Z t0 k0)), (1, .int a1)] [] s := by
  unfold F_X10_homeItemsFit_75 at hF
  refine a_iconst (v := (0 : Int32)) dX10_homeItemsFit_75 (by decide) ?_
  exact w_X10_homeItemsFit_76 (l := l) hZ hx0 ho0 ha0  (0 : Int32)  _ hF
set_option maxRecDepth 100000 in
set_option maxHeartbeats 4000000 in
theorem w_X10_homeItemsFit {Z : ZE} {l : Launch} (hZ : OkX Z) {t0 : Nat} {k0 : Nat} {a1 : Int32} (hx0 : zx Z t0 k0) (ho0 : shO t0 = none) (ha0 : shA t0 = some (lna t0)) {R : Int32 × St}    (s : St) (hF : F_X10_homeItemsFit (zg Z) t0 k0 a1  s = some R) : AW Z l iX10_homeItemsFit (Pq (rI R)) 0 0 0 [(0, .ref (za Z t0 k0)), (1, .int a1)] [] s := by
  unfold F_X10_homeItemsFit at hF
  refine a_aload_n dX10_homeItemsFit_0 0 rfl rfl ?_
  refine a_iload_n dX10_homeItemsFit_1 1 rfl rfl ?_
  obtain ⟨p1, hF⟩ := gd_some hF
  refine a_iald hZ.1 (s t0 k0 a1.toNatClampNeg) hx0 ho0 ha0 (inb_vp p1) rfl dX10_homeItemsFit_2 ?_
  refine a_iconst (v := (0 : Int32)) dX10_homeItemsFit_3 (by decide) ?_
  refine a_iconst (v := (5 : Int32)) dX10_homeItemsFit_4 (by decide) ?_
  obtain ⟨r5, s5, e5, hF⟩ := bd_some hF
  refine a_invS hZ.1 (As := [.int (s t0 k0 a1.toNatClampNeg), .int (0 : Int32), .int (5 : Int32)]) (rest := []) lk_X10_75 ⟨⟨by decide, by decide⟩, by decide, by decide⟩ rfl (Nat.le_of_ble_eq_true rfl) dX10_homeItemsFit_5 (m_X10_within hZ  e5) ?_
  show AW Z l iX10_homeItemsFit (Pq (rI R)) 0 0 8 [(0, .ref (za Z t0 k0)), (1, .int a1)] [.int r5] s5
  refine a_if_eq 75 dX10_homeItemsFit_8 (by decide) (fun q2 => ?_) (fun q2 => ?_)
  · replace hF := (if_pos q2).symm.trans hF
    exact w_X10_homeItemsFit_75 (l := l) hZ hx0 ho0 ha0    _ hF
  · replace hF := (if_neg q2).symm.trans hF
    refine a_aload_n dX10_homeItemsFit_11 0 rfl rfl ?_
    refine a_iload_n dX10_homeItemsFit_12 1 rfl rfl ?_
    refine a_iconst (v := (1 : Int32)) dX10_homeItemsFit_13 (by decide) ?_
    refine a_iadd dX10_homeItemsFit_14 ?_
    obtain ⟨p3, hF⟩ := gd_some hF
    refine a_iald hZ.1 (s5 t0 k0 (a1 + (1 : Int32)).toNatClampNeg) hx0 ho0 ha0 (inb_vp p3) rfl dX10_homeItemsFit_15 ?_
    refine a_iconst (v := (1 : Int32)) dX10_homeItemsFit_16 (by decide) ?_
    refine a_bipush (v := (12 : Int32)) dX10_homeItemsFit_17 (by decide) ?_
    obtain ⟨r19, s19, e19, hF⟩ := bd_some hF
    refine a_invS hZ.1 (As := [.int (s5 t0 k0 (a1 + (1 : Int32)).toNatClampNeg), .int (1 : Int32), .int (12 : Int32)]) (rest := []) lk_X10_75 ⟨⟨by decide, by decide⟩, by decide, by decide⟩ rfl (Nat.le_of_ble_eq_true rfl) dX10_homeItemsFit_19 (m_X10_within hZ  e19) ?_
    show AW Z l iX10_homeItemsFit (Pq (rI R)) 0 0 22 [(0, .ref (za Z t0 k0)), (1, .int a1)] [.int r19] s19
    refine a_if_eq 75 dX10_homeItemsFit_22 (by decide) (fun q4 => ?_) (fun q4 => ?_)
    · replace hF := (if_pos q4).symm.trans hF
      exact w_X10_homeItemsFit_75 (l := l) hZ hx0 ho0 ha0    _ hF
    · replace hF := (if_neg q4).symm.trans hF
      refine a_aload_n dX10_homeItemsFit_25 0 rfl rfl ?_
      refine a_iload_n dX10_homeItemsFit_26 1 rfl rfl ?_
      refine a_iconst (v := (2 : Int32)) dX10_homeItemsFit_27 (by decide) ?_
      refine a_iadd dX10_homeItemsFit_28 ?_
      obtain ⟨p5, hF⟩ := gd_some hF
      refine a_iald hZ.1 (s19 t0 k0 (a1 + (2 : Int32)).toNatClampNeg) hx0 ho0 ha0 (inb_vp p5) rfl dX10_homeItemsFit_29 ?_
      refine a_iconst (v := (0 : Int32)) dX10_homeItemsFit_30 (by decide) ?_
      refine a_aload_n dX10_homeItemsFit_31 0 rfl rfl ?_
      refine a_iload_n dX10_homeItemsFit_32 1 rfl rfl ?_
      refine a_iconst (v := (1 : Int32)) dX10_homeItemsFit_33 (by decide) ?_
      refine a_iadd dX10_homeItemsFit_34 ?_
      obtain ⟨p6, hF⟩ := gd_some hF
      refine a_iald hZ.1 (s19 t0 k0 (a1 + (1 : Int32)).toNatClampNeg) hx0 ho0 ha0 (inb_vp p6) rfl dX10_homeItemsFit_35 ?_
      obtain ⟨r36, s36, e36, hF⟩ := bd_some hF
      refine a_invS hZ.1 (As := [.int (s19 t0 k0 (a1 + (2 : Int32)).toNatClampNeg), .int (0 : Int32), .int (s19 t0 k0 (a1 + (1 : Int32)).toNatClampNeg)]) (rest := []) lk_X10_75 ⟨⟨by decide, by decide⟩, by decide, by decide⟩ rfl (Nat.le_of_ble_eq_true rfl) dX10_homeItemsFit_36 (m_X10_within hZ  e36) ?_
      show AW Z l iX10_homeItemsFit (Pq (rI R)) 0 0 39 [(0, .ref (za Z t0 k0)), (1, .int a1)] [.int r36] s36
      refine a_if_eq 75 dX10_homeItemsFit_39 (by decide) (fun q7 => ?_) (fun q7 => ?_)
      · replace hF := (if_pos q7).symm.trans hF
        exact w_X10_homeItemsFit_75 (l := l) hZ hx0 ho0 ha0    _ hF
      · replace hF := (if_neg q7).symm.trans hF
        refine a_aload_n dX10_homeItemsFit_42 0 rfl rfl ?_
        refine a_iload_n dX10_homeItemsFit_43 1 rfl rfl ?_
        refine a_iconst (v := (3 : Int32)) dX10_homeItemsFit_44 (by decide) ?_
        refine a_iadd dX10_homeItemsFit_45 ?_
        obtain ⟨p8, hF⟩ := gd_some hF
        refine a_iald hZ.1 (s36 t0 k0 (a1 + (3 : Int32)).toNatClampNeg) hx0 ho0 ha0 (inb_vp p8) rfl dX10_homeItemsFit_46 ?_
        refine a_iconst (v := (0 : Int32)) dX10_homeItemsFit_47 (by decide) ?_
        refine a_sipush (v := (9999 : Int32)) dX10_homeItemsFit_48 (by decide) ?_
        obtain ⟨r51, s51, e51, hF⟩ := bd_some hF
        refine a_invS hZ.1 (As := [.int (s36 t0 k0 (a1 + (3 : Int32)).toNatClampNeg), .int (0 : Int32), .int (9999 : Int32)]) (rest := []) lk_X10_75 ⟨⟨by decide, by decide⟩, by decide, by decide⟩ rfl (Nat.le_of_ble_eq_true rfl) dX10_homeItemsFit_51 (m_X10_within hZ  e51) ?_
        show AW Z l iX10_homeItemsFit (Pq (rI R)) 0 0 54 [(0, .ref (za Z t0 k0)), (1, .int a1)] [.int r51] s51
        refine a_if_eq 75 dX10_homeItemsFit_54 (by decide) (fun q9 => ?_) (fun q9 => ?_)
        · replace hF := (if_pos q9).symm.trans hF
          exact w_X10_homeItemsFit_75 (l := l) hZ hx0 ho0 ha0    _ hF
        · replace hF := (if_neg q9).symm.trans hF
          refine a_aload_n dX10_homeItemsFit_57 0 rfl rfl ?_
          refine a_iload_n dX10_homeItemsFit_58 1 rfl rfl ?_
          refine a_iconst (v := (4 : Int32)) dX10_homeItemsFit_59 (by decide) ?_
          refine a_iadd dX10_homeItemsFit_60 ?_
          obtain ⟨p10, hF⟩ := gd_some hF
          refine a_iald hZ.1 (s51 t0 k0 (a1 + (4 : Int32)).toNatClampNeg) hx0 ho0 ha0 (inb_vp p10) rfl dX10_homeItemsFit_61 ?_
          refine a_iconst (v := (0 : Int32)) dX10_homeItemsFit_62 (by decide) ?_
          refine a_bipush (v := (99 : Int32)) dX10_homeItemsFit_63 (by decide) ?_
          obtain ⟨r65, s65, e65, hF⟩ := bd_some hF
          refine a_invS hZ.1 (As := [.int (s51 t0 k0 (a1 + (4 : Int32)).toNatClampNeg), .int (0 : Int32), .int (99 : Int32)]) (rest := []) lk_X10_75 ⟨⟨by decide, by decide⟩, by decide, by decide⟩ rfl (Nat.le_of_ble_eq_true rfl) dX10_homeItemsFit_65 (m_X10_within hZ  e65) ?_
          show AW Z l iX10_homeItemsFit (Pq (rI R)) 0 0 68 [(0, .ref (za Z t0 k0)), (1, .int a1)] [.int r65] s65
          refine a_if_eq 75 dX10_homeItemsFit_68 (by decide) (fun q11 => ?_) (fun q11 => ?_)
          · replace hF := (if_pos q11).symm.trans hF
            exact w_X10_homeItemsFit_75 (l := l) hZ hx0 ho0 ha0    _ hF
          · replace hF := (if_neg q11).symm.trans hF
            refine a_iconst (v := (1 : Int32)) dX10_homeItemsFit_71 (by decide) ?_
            refine a_goto 76 dX10_homeItemsFit_72 (by decide) ?_
            exact w_X10_homeItemsFit_76 (l := l) hZ hx0 ho0 ha0  (1 : Int32)  _ hF
theorem m_X10_homeItemsFit {Z : ZE} {l : Launch} (hZ : OkX Z) {t0 : Nat} {k0 : Nat} {a1 : Int32} (hx0 : zx Z t0 k0) (ho0 : shO t0 = none) (ha0 : shA t0 = some (lna t0)) {s : St} {R : Int32 × St} (hF : F_X10_homeItemsFit (zg Z) t0 k0 a1 s = some R) : Sp Z l yX10_homeItemsFit iX10_homeItemsFit [.ref (za Z t0 k0), .int a1] s (rI R) :=
  Sp.of (by decide) rfl (Nat.le_of_ble_eq_true rfl) (w_X10_homeItemsFit hZ hx0 ho0 ha0 s hF)
-- X3_tells
set_option maxRecDepth 100000 in
set_option maxHeartbeats 4000000 in
theorem w_X3_tells {Z : ZE} {l : Launch} (hZ : OkX Z) {k0 : Nat} {a1 : Int32} (h0 : k0 < shN (zg Z) 26) {R : Int32 × St}    (s : St) (hF : F_X3_tells (zg Z) k0 a1  s = some R) : AW Z l iX3_tells (Pq (rI R)) 0 0 0 [(0, .ref (za Z 26 k0)), (1, .int a1)] [] s := by
  unfold F_X3_tells at hF
  refine a_iload_n dX3_tells_0 1 rfl rfl ?_
  by_cases q1 : a1 = 0
  · replace hF := (if_pos q1).symm.trans hF
    refine a_tableIn 60 dX3_tells_1 (by rw [q1]; decide) (by rw [q1]; decide) (by rw [q1]; rfl) (by decide) ?_
    refine a_aload_n dX3_tells_60 0 rfl rfl ?_
    refine a_getI hZ.1 (s 26 k0 0) (hZ.2 26 k0 (by decide) h0) fl_X3_15 rfl rfl dX3_tells_61 ?_
    replace hF := Option.some.inj hF
    subst hF
    exact a_iret rfl (Nat.zero_le _) (Nat.zero_le _) dX3_tells_64 ⟨rfl, rfl⟩
  replace hF := (if_neg q1).symm.trans hF
  by_cases q2 : a1 = 1
  · replace hF := (if_pos q2).symm.trans hF
    refine a_tableIn 65 dX3_tells_1 (by rw [q2]; decide) (by rw [q2]; decide) (by rw [q2]; rfl) (by decide) ?_
    refine a_aload_n dX3_tells_65 0 rfl rfl ?_
    refine a_getI hZ.1 (s 26 k0 1) (hZ.2 26 k0 (by decide) h0) fl_X3_19 rfl rfl dX3_tells_66 ?_
    replace hF := Option.some.inj hF
    subst hF
    exact a_iret rfl (Nat.zero_le _) (Nat.zero_le _) dX3_tells_69 ⟨rfl, rfl⟩
  replace hF := (if_neg q2).symm.trans hF
  by_cases q3 : a1 = 2
  · replace hF := (if_pos q3).symm.trans hF
    refine a_tableIn 70 dX3_tells_1 (by rw [q3]; decide) (by rw [q3]; decide) (by rw [q3]; rfl) (by decide) ?_
    refine a_aload_n dX3_tells_70 0 rfl rfl ?_
    refine a_getI hZ.1 (s 26 k0 2) (hZ.2 26 k0 (by decide) h0) fl_X3_22 rfl rfl dX3_tells_71 ?_
    replace hF := Option.some.inj hF
    subst hF
    exact a_iret rfl (Nat.zero_le _) (Nat.zero_le _) dX3_tells_74 ⟨rfl, rfl⟩
  replace hF := (if_neg q3).symm.trans hF
  by_cases q4 : a1 = 3
  · replace hF := (if_pos q4).symm.trans hF
    refine a_tableIn 75 dX3_tells_1 (by rw [q4]; decide) (by rw [q4]; decide) (by rw [q4]; rfl) (by decide) ?_
    refine a_aload_n dX3_tells_75 0 rfl rfl ?_
    refine a_getI hZ.1 (s 26 k0 5) (hZ.2 26 k0 (by decide) h0) fl_X3_25 rfl rfl dX3_tells_76 ?_
    replace hF := Option.some.inj hF
    subst hF
    exact a_iret rfl (Nat.zero_le _) (Nat.zero_le _) dX3_tells_79 ⟨rfl, rfl⟩
  replace hF := (if_neg q4).symm.trans hF
  by_cases q5 : a1 = 4
  · replace hF := (if_pos q5).symm.trans hF
    refine a_tableIn 80 dX3_tells_1 (by rw [q5]; decide) (by rw [q5]; decide) (by rw [q5]; rfl) (by decide) ?_
    refine a_aload_n dX3_tells_80 0 rfl rfl ?_
    refine a_getI hZ.1 (s 26 k0 3) (hZ.2 26 k0 (by decide) h0) fl_X3_28 rfl rfl dX3_tells_81 ?_
    replace hF := Option.some.inj hF
    subst hF
    exact a_iret rfl (Nat.zero_le _) (Nat.zero_le _) dX3_tells_84 ⟨rfl, rfl⟩
  replace hF := (if_neg q5).symm.trans hF
  by_cases q6 : a1 = 9
  · replace hF := (if_pos q6).symm.trans hF
    refine a_tableIn 85 dX3_tells_1 (by rw [q6]; decide) (by rw [q6]; decide) (by rw [q6]; rfl) (by decide) ?_
    refine a_aload_n dX3_tells_85 0 rfl rfl ?_
    refine a_getI hZ.1 (s 26 k0 6) (hZ.2 26 k0 (by decide) h0) fl_X3_44 rfl rfl dX3_tells_86 ?_
    replace hF := Option.some.inj hF
    subst hF
    exact a_iret rfl (Nat.zero_le _) (Nat.zero_le _) dX3_tells_89 ⟨rfl, rfl⟩
  replace hF := (if_neg q6).symm.trans hF
  by_cases q7 : a1 = 10
  · replace hF := (if_pos q7).symm.trans hF
    refine a_tableIn 90 dX3_tells_1 (by rw [q7]; decide) (by rw [q7]; decide) (by rw [q7]; rfl) (by decide) ?_
    refine a_aload_n dX3_tells_90 0 rfl rfl ?_
    refine a_getI hZ.1 (s 26 k0 7) (hZ.2 26 k0 (by decide) h0) fl_X3_37 rfl rfl dX3_tells_91 ?_
    replace hF := Option.some.inj hF
    subst hF
    exact a_iret rfl (Nat.zero_le _) (Nat.zero_le _) dX3_tells_94 ⟨rfl, rfl⟩
  replace hF := (if_neg q7).symm.trans hF
  by_cases q8 : a1 = 5
  · refine a_tableIn 95 dX3_tells_1 (by rw [q8]; decide) (by rw [q8]; decide) (by rw [q8]; rfl) (by decide) ?_
    refine a_iload_n dX3_tells_95 1 rfl rfl ?_
    refine a_iconst (v := (5 : Int32)) dX3_tells_96 (by decide) ?_
    refine a_bipush (v := (8 : Int32)) dX3_tells_97 (by decide) ?_
    obtain ⟨r99, s99, e99, hF⟩ := bd_some hF
    refine a_invN hZ.1 (As := [.int a1, .int (5 : Int32), .int (8 : Int32)]) (rest := []) lk_X3_47 ⟨⟨by decide, by decide⟩, by decide, by decide⟩ rfl (Nat.le_of_ble_eq_true rfl) dX3_tells_99 (m_X10_within hZ  e99) ?_
    show AW Z l iX3_tells (Pq (rI R)) 0 0 102 [(0, .ref (za Z 26 k0)), (1, .int a1)] [.int r99] s99
    refine a_if_eq 116 dX3_tells_102 (by decide) (fun q9 => ?_) (fun q9 => ?_)
    · replace hF := (if_pos q9).symm.trans hF
      refine a_ldc (v := (-1000001)) kw_791 dX3_tells_116 ?_
      replace hF := Option.some.inj hF
      subst hF
      exact a_iret rfl (Nat.zero_le _) (Nat.zero_le _) dX3_tells_118 ⟨rfl, rfl⟩
    · replace hF := (if_neg q9).symm.trans hF
      refine a_aload_n dX3_tells_105 0 rfl rfl ?_
      refine a_getR hZ.1 (hZ.2 26 k0 (by decide) h0) fl_X3_9 rfl k0 rfl dX3_tells_106 ?_
      refine a_iload_n dX3_tells_109 1 rfl rfl ?_
      refine a_iconst (v := (5 : Int32)) dX3_tells_110 (by decide) ?_
      refine a_isub dX3_tells_111 ?_
      obtain ⟨p10, hF⟩ := gd_some hF
      refine a_iald hZ.1 (s99 27 k0 (a1 - (5 : Int32)).toNatClampNeg) (hZ.2 27 k0 (by decide) h0) rfl rfl (inb_vp p10) rfl dX3_tells_112 ?_
      refine a_goto 118 dX3_tells_113 (by decide) ?_
      replace hF := Option.some.inj hF
      subst hF
      exact a_iret rfl (Nat.zero_le _) (Nat.zero_le _) dX3_tells_118 ⟨rfl, rfl⟩
  by_cases q11 : a1 = 6
  · refine a_tableIn 95 dX3_tells_1 (by rw [q11]; decide) (by rw [q11]; decide) (by rw [q11]; rfl) (by decide) ?_
    refine a_iload_n dX3_tells_95 1 rfl rfl ?_
    refine a_iconst (v := (5 : Int32)) dX3_tells_96 (by decide) ?_
    refine a_bipush (v := (8 : Int32)) dX3_tells_97 (by decide) ?_
    obtain ⟨r99, s99, e99, hF⟩ := bd_some hF
    refine a_invN hZ.1 (As := [.int a1, .int (5 : Int32), .int (8 : Int32)]) (rest := []) lk_X3_47 ⟨⟨by decide, by decide⟩, by decide, by decide⟩ rfl (Nat.le_of_ble_eq_true rfl) dX3_tells_99 (m_X10_within hZ  e99) ?_
    show AW Z l iX3_tells (Pq (rI R)) 0 0 102 [(0, .ref (za Z 26 k0)), (1, .int a1)] [.int r99] s99
    refine a_if_eq 116 dX3_tells_102 (by decide) (fun q12 => ?_) (fun q12 => ?_)
    · replace hF := (if_pos q12).symm.trans hF
      refine a_ldc (v := (-1000001)) kw_791 dX3_tells_116 ?_
      replace hF := Option.some.inj hF
      subst hF
      exact a_iret rfl (Nat.zero_le _) (Nat.zero_le _) dX3_tells_118 ⟨rfl, rfl⟩
    · replace hF := (if_neg q12).symm.trans hF
      refine a_aload_n dX3_tells_105 0 rfl rfl ?_
      refine a_getR hZ.1 (hZ.2 26 k0 (by decide) h0) fl_X3_9 rfl k0 rfl dX3_tells_106 ?_
      refine a_iload_n dX3_tells_109 1 rfl rfl ?_
      refine a_iconst (v := (5 : Int32)) dX3_tells_110 (by decide) ?_
      refine a_isub dX3_tells_111 ?_
      obtain ⟨p13, hF⟩ := gd_some hF
      refine a_iald hZ.1 (s99 27 k0 (a1 - (5 : Int32)).toNatClampNeg) (hZ.2 27 k0 (by decide) h0) rfl rfl (inb_vp p13) rfl dX3_tells_112 ?_
      refine a_goto 118 dX3_tells_113 (by decide) ?_
      replace hF := Option.some.inj hF
      subst hF
      exact a_iret rfl (Nat.zero_le _) (Nat.zero_le _) dX3_tells_118 ⟨rfl, rfl⟩
  by_cases q14 : a1 = 7
  · refine a_tableIn 95 dX3_tells_1 (by rw [q14]; decide) (by rw [q14]; decide) (by rw [q14]; rfl) (by decide) ?_
    refine a_iload_n dX3_tells_95 1 rfl rfl ?_
    refine a_iconst (v := (5 : Int32)) dX3_tells_96 (by decide) ?_
    refine a_bipush (v := (8 : Int32)) dX3_tells_97 (by decide) ?_
    obtain ⟨r99, s99, e99, hF⟩ := bd_some hF
    refine a_invN hZ.1 (As := [.int a1, .int (5 : Int32), .int (8 : Int32)]) (rest := []) lk_X3_47 ⟨⟨by decide, by decide⟩, by decide, by decide⟩ rfl (Nat.le_of_ble_eq_true rfl) dX3_tells_99 (m_X10_within hZ  e99) ?_
    show AW Z l iX3_tells (Pq (rI R)) 0 0 102 [(0, .ref (za Z 26 k0)), (1, .int a1)] [.int r99] s99
    refine a_if_eq 116 dX3_tells_102 (by decide) (fun q15 => ?_) (fun q15 => ?_)
    · replace hF := (if_pos q15).symm.trans hF
      refine a_ldc (v := (-1000001)) kw_791 dX3_tells_116 ?_
      replace hF := Option.some.inj hF
      subst hF
      exact a_iret rfl (Nat.zero_le _) (Nat.zero_le _) dX3_tells_118 ⟨rfl, rfl⟩
    · replace hF := (if_neg q15).symm.trans hF
      refine a_aload_n dX3_tells_105 0 rfl rfl ?_
      refine a_getR hZ.1 (hZ.2 26 k0 (by decide) h0) fl_X3_9 rfl k0 rfl dX3_tells_106 ?_
      refine a_iload_n dX3_tells_109 1 rfl rfl ?_
      refine a_iconst (v := (5 : Int32)) dX3_tells_110 (by decide) ?_
      refine a_isub dX3_tells_111 ?_
      obtain ⟨p16, hF⟩ := gd_some hF
      refine a_iald hZ.1 (s99 27 k0 (a1 - (5 : Int32)).toNatClampNeg) (hZ.2 27 k0 (by decide) h0) rfl rfl (inb_vp p16) rfl dX3_tells_112 ?_
      refine a_goto 118 dX3_tells_113 (by decide) ?_
      replace hF := Option.some.inj hF
      subst hF
      exact a_iret rfl (Nat.zero_le _) (Nat.zero_le _) dX3_tells_118 ⟨rfl, rfl⟩
  by_cases q17 : a1 = 8
  · refine a_tableIn 95 dX3_tells_1 (by rw [q17]; decide) (by rw [q17]; decide) (by rw [q17]; rfl) (by decide) ?_
    refine a_iload_n dX3_tells_95 1 rfl rfl ?_
    refine a_iconst (v := (5 : Int32)) dX3_tells_96 (by decide) ?_
    refine a_bipush (v := (8 : Int32)) dX3_tells_97 (by decide) ?_
    obtain ⟨r99, s99, e99, hF⟩ := bd_some hF
    refine a_invN hZ.1 (As := [.int a1, .int (5 : Int32), .int (8 : Int32)]) (rest := []) lk_X3_47 ⟨⟨by decide, by decide⟩, by decide, by decide⟩ rfl (Nat.le_of_ble_eq_true rfl) dX3_tells_99 (m_X10_within hZ  e99) ?_
    show AW Z l iX3_tells (Pq (rI R)) 0 0 102 [(0, .ref (za Z 26 k0)), (1, .int a1)] [.int r99] s99
    refine a_if_eq 116 dX3_tells_102 (by decide) (fun q18 => ?_) (fun q18 => ?_)
    · replace hF := (if_pos q18).symm.trans hF
      refine a_ldc (v := (-1000001)) kw_791 dX3_tells_116 ?_
      replace hF := Option.some.inj hF
      subst hF
      exact a_iret rfl (Nat.zero_le _) (Nat.zero_le _) dX3_tells_118 ⟨rfl, rfl⟩
    · replace hF := (if_neg q18).symm.trans hF
      refine a_aload_n dX3_tells_105 0 rfl rfl ?_
      refine a_getR hZ.1 (hZ.2 26 k0 (by decide) h0) fl_X3_9 rfl k0 rfl dX3_tells_106 ?_
      refine a_iload_n dX3_tells_109 1 rfl rfl ?_
      refine a_iconst (v := (5 : Int32)) dX3_tells_110 (by decide) ?_
      refine a_isub dX3_tells_111 ?_
      obtain ⟨p19, hF⟩ := gd_some hF
      refine a_iald hZ.1 (s99 27 k0 (a1 - (5 : Int32)).toNatClampNeg) (hZ.2 27 k0 (by decide) h0) rfl rfl (inb_vp p19) rfl dX3_tells_112 ?_
      refine a_goto 118 dX3_tells_113 (by decide) ?_
      replace hF := Option.some.inj hF
      subst hF
      exact a_iret rfl (Nat.zero_le _) (Nat.zero_le _) dX3_tells_118 ⟨rfl, rfl⟩
  refine a_tableOut 95 dX3_tells_1 (by have n0 : (a1).toInt ≠ 0 := ne_ti q1; have n1 : (a1).toInt ≠ 1 := ne_ti q2; have n2 : (a1).toInt ≠ 2 := ne_ti q3; have n3 : (a1).toInt ≠ 3 := ne_ti q4; have n4 : (a1).toInt ≠ 4 := ne_ti q5; have n9 : (a1).toInt ≠ 9 := ne_ti q6; have n10 : (a1).toInt ≠ 10 := ne_ti q7; have n5 : (a1).toInt ≠ 5 := ne_ti q8; have n6 : (a1).toInt ≠ 6 := ne_ti q11; have n7 : (a1).toInt ≠ 7 := ne_ti q14; have n8 : (a1).toInt ≠ 8 := ne_ti q17; omega) (by decide) ?_
  refine a_iload_n dX3_tells_95 1 rfl rfl ?_
  refine a_iconst (v := (5 : Int32)) dX3_tells_96 (by decide) ?_
  refine a_bipush (v := (8 : Int32)) dX3_tells_97 (by decide) ?_
  obtain ⟨r99, s99, e99, hF⟩ := bd_some hF
  refine a_invN hZ.1 (As := [.int a1, .int (5 : Int32), .int (8 : Int32)]) (rest := []) lk_X3_47 ⟨⟨by decide, by decide⟩, by decide, by decide⟩ rfl (Nat.le_of_ble_eq_true rfl) dX3_tells_99 (m_X10_within hZ  e99) ?_
  show AW Z l iX3_tells (Pq (rI R)) 0 0 102 [(0, .ref (za Z 26 k0)), (1, .int a1)] [.int r99] s99
  refine a_if_eq 116 dX3_tells_102 (by decide) (fun q20 => ?_) (fun q20 => ?_)
  · replace hF := (if_pos q20).symm.trans hF
    refine a_ldc (v := (-1000001)) kw_791 dX3_tells_116 ?_
    replace hF := Option.some.inj hF
    subst hF
    exact a_iret rfl (Nat.zero_le _) (Nat.zero_le _) dX3_tells_118 ⟨rfl, rfl⟩
  · replace hF := (if_neg q20).symm.trans hF
    refine a_aload_n dX3_tells_105 0 rfl rfl ?_
    refine a_getR hZ.1 (hZ.2 26 k0 (by decide) h0) fl_X3_9 rfl k0 rfl dX3_tells_106 ?_
    refine a_iload_n dX3_tells_109 1 rfl rfl ?_
    refine a_iconst (v := (5 : Int32)) dX3_tells_110 (by decide) ?_
    refine a_isub dX3_tells_111 ?_
    obtain ⟨p21, hF⟩ := gd_some hF
    refine a_iald hZ.1 (s99 27 k0 (a1 - (5 : Int32)).toNatClampNeg) (hZ.2 27 k0 (by decide) h0) rfl rfl (inb_vp p21) rfl dX3_tells_112 ?_
    refine a_goto 118 dX3_tells_113 (by decide) ?_
    replace hF := Option.some.inj hF
    subst hF
    exact a_iret rfl (Nat.zero_le _) (Nat.zero_le _) dX3_tells_118 ⟨rfl, rfl⟩
theorem m_X3_tells {Z : ZE} {l : Launch} (hZ : OkX Z) {k0 : Nat} {a1 : Int32} (h0 : k0 < shN (zg Z) 26) {s : St} {R : Int32 × St} (hF : F_X3_tells (zg Z) k0 a1 s = some R) : Sp Z l yX3_tells iX3_tells [.ref (za Z 26 k0), .int a1] s (rI R) :=
  Sp.of (by decide) rfl (Nat.le_of_ble_eq_true rfl) (w_X3_tells hZ h0 s hF)
-- X10_house
set_option maxRecDepth 100000 in
set_option maxHeartbeats 4000000 in
theorem w_X10_house {Z : ZE} {l : Launch} (hZ : OkX Z) {a1 : Int32} {a2 : Int32}  {R : Int32 × St}    (s : St) (hF : F_X10_house (zg Z) a1 a2  s = some R) : AW Z l iX10_house (Pq (rI R)) 0 0 0 [(0, .ref (za Z 0 0)), (1, .int a1), (2, .int a2)] [] s := by
  unfold F_X10_house at hF
  refine a_iload_n dX10_house_0 1 rfl rfl ?_
  refine a_iconst (v := (0 : Int32)) dX10_house_1 (by decide) ?_
  refine a_aload_n dX10_house_2 0 rfl rfl ?_
  refine a_getI hZ.1 (s 0 0 9) (hZ.2 0 0 (by decide) Nat.one_pos) fl_X10_233 rfl rfl dX10_house_3 ?_
  refine a_iconst (v := (1 : Int32)) dX10_house_6 (by decide) ?_
  refine a_isub dX10_house_7 ?_
  obtain ⟨r8, s8, e8, hF⟩ := bd_some hF
  refine a_invS hZ.1 (As := [.int a1, .int (0 : Int32), .int ((s 0 0 9) - (1 : Int32))]) (rest := []) lk_X10_75 ⟨⟨by decide, by decide⟩, by decide, by decide⟩ rfl (Nat.le_of_ble_eq_true rfl) dX10_house_8 (m_X10_within hZ  e8) ?_
  show AW Z l iX10_house (Pq (rI R)) 0 0 11 [(0, .ref (za Z 0 0)), (1, .int a1), (2, .int a2)] [.int r8] s8
  refine a_if_eq 24 dX10_house_11 (by decide) (fun q1 => ?_) (fun q1 => ?_)
  · replace hF := (if_pos q1).symm.trans hF
    refine a_ldc (v := (-1000001)) kw_324 dX10_house_24 ?_
    replace hF := Option.some.inj hF
    subst hF
    exact a_iret rfl (Nat.zero_le _) (Nat.zero_le _) dX10_house_26 ⟨rfl, rfl⟩
  · replace hF := (if_neg q1).symm.trans hF
    refine a_iload_n dX10_house_14 2 rfl rfl ?_
    refine a_iconst (v := (0 : Int32)) dX10_house_15 (by decide) ?_
    refine a_bipush (v := (10 : Int32)) dX10_house_16 (by decide) ?_
    obtain ⟨r18, s18, e18, hF⟩ := bd_some hF
    refine a_invS hZ.1 (As := [.int a2, .int (0 : Int32), .int (10 : Int32)]) (rest := []) lk_X10_75 ⟨⟨by decide, by decide⟩, by decide, by decide⟩ rfl (Nat.le_of_ble_eq_true rfl) dX10_house_18 (m_X10_within hZ  e18) ?_
    show AW Z l iX10_house (Pq (rI R)) 0 0 21 [(0, .ref (za Z 0 0)), (1, .int a1), (2, .int a2)] [.int r18] s18
    refine a_if_ne 27 dX10_house_21 (by decide) (fun q2 => ?_) (fun q2 => ?_)
    · replace hF := (if_neg q2).symm.trans hF
      refine a_aload_n dX10_house_27 0 rfl rfl ?_
      refine a_getR hZ.1 (hZ.2 0 0 (by decide) Nat.one_pos) fl_X10_38 rfl 0 rfl dX10_house_28 ?_
      refine a_iload_n dX10_house_31 1 rfl rfl ?_
      obtain ⟨p3, hF⟩ := gd_some hF
      obtain ⟨p4, hF⟩ := gd_some hF
      refine a_aald hZ.1 (hZ.2 25 0 (by decide) Nat.one_pos) rfl rfl rfl rfl (inb_vp p3) (ltb_lt p4) dX10_house_32 ?_
      refine a_iload_n dX10_house_33 2 rfl rfl ?_
      obtain ⟨r34, s34, e34, hF⟩ := bd_some hF
      refine a_invV hZ.1 (As := [.int a2]) (rest := []) (hZ.2 26 a1.toNatClampNeg (by decide) (ltb_lt p4)) lk_X10_244 ⟨⟨by decide, by decide⟩, by decide, by decide⟩ rfl (Nat.le_of_ble_eq_true rfl) dX10_house_34 (m_X3_tells hZ (ltb_lt p4) e34) ?_
      show AW Z l iX10_house (Pq (rI R)) 0 0 37 [(0, .ref (za Z 0 0)), (1, .int a1), (2, .int a2)] [.int r34] s34
      replace hF := Option.some.inj hF
      subst hF
      exact a_iret rfl (Nat.zero_le _) (Nat.zero_le _) dX10_house_37 ⟨rfl, rfl⟩
    · replace hF := (if_pos q2).symm.trans hF
      refine a_ldc (v := (-1000001)) kw_324 dX10_house_24 ?_
      replace hF := Option.some.inj hF
      subst hF
      exact a_iret rfl (Nat.zero_le _) (Nat.zero_le _) dX10_house_26 ⟨rfl, rfl⟩
theorem m_X10_house {Z : ZE} {l : Launch} (hZ : OkX Z) {a1 : Int32} {a2 : Int32}  {s : St} {R : Int32 × St} (hF : F_X10_house (zg Z) a1 a2 s = some R) : Sp Z l yX10_house iX10_house [.ref (za Z 0 0), .int a1, .int a2] s (rI R) :=
  Sp.of (by decide) rfl (Nat.le_of_ble_eq_true rfl) (w_X10_house hZ  s hF)
-- X10_isSort
set_option maxRecDepth 100000 in
set_option maxHeartbeats 4000000 in
theorem w_X10_isSort {Z : ZE} {l : Launch} (hZ : OkX Z) {a0 : Int32}  {R : Int32 × St}    (s : St) (hF : F_X10_isSort (zg Z) a0  s = some R) : AW Z l iX10_isSort (Pq (rI R)) 0 0 0 [(0, .int a0)] [] s := by
  unfold F_X10_isSort at hF
  refine a_iload_n dX10_isSort_0 0 rfl rfl ?_
  refine a_iconst (v := (0 : Int32)) dX10_isSort_1 (by decide) ?_
  refine a_iconst (v := (3 : Int32)) dX10_isSort_2 (by decide) ?_
  obtain ⟨r3, s3, e3, hF⟩ := bd_some hF
  refine a_invS hZ.1 (As := [.int a0, .int (0 : Int32), .int (3 : Int32)]) (rest := []) lk_X10_75 ⟨⟨by decide, by decide⟩, by decide, by decide⟩ rfl (Nat.le_of_ble_eq_true rfl) dX10_isSort_3 (m_X10_within hZ  e3) ?_
  show AW Z l iX10_isSort (Pq (rI R)) 0 0 6 [(0, .int a0)] [.int r3] s3
  obtain ⟨p1, hF⟩ := gd_some hF
  replace hF := Option.some.inj hF
  subst hF
  exact a_zret rfl (isb_n p1) (Nat.zero_le _) (Nat.zero_le _) dX10_isSort_6 ⟨rfl, rfl⟩
theorem m_X10_isSort {Z : ZE} {l : Launch} (hZ : OkX Z) {a0 : Int32}  {s : St} {R : Int32 × St} (hF : F_X10_isSort (zg Z) a0 s = some R) : Sp Z l yX10_isSort iX10_isSort [.int a0] s (rI R) :=
  Sp.of (by decide) rfl (Nat.le_of_ble_eq_true rfl) (w_X10_isSort hZ  s hF)
-- X10_kind
set_option maxRecDepth 100000 in
set_option maxHeartbeats 4000000 in
theorem w_X10_kind {Z : ZE} {l : Launch} (hZ : OkX Z) {a1 : Int32}  {R : Int32 × St}    (s : St) (hF : F_X10_kind (zg Z) a1  s = some R) : AW Z l iX10_kind (Pq (rI R)) 0 0 0 [(0, .ref (za Z 0 0)), (1, .int a1)] [] s := by
  unfold F_X10_kind at hF
  refine a_aload_n dX10_kind_0 0 rfl rfl ?_
  refine a_getR hZ.1 (hZ.2 0 0 (by decide) Nat.one_pos) fl_X10_59 rfl 0 rfl dX10_kind_1 ?_
  refine a_iload_n dX10_kind_4 1 rfl rfl ?_
  obtain ⟨r5, s5, e5, hF⟩ := bd_some hF
  refine a_invV hZ.1 (As := [.int a1]) (rest := []) (hZ.2 38 0 (by decide) Nat.one_pos) lk_X10_273 ⟨⟨by decide, by decide⟩, by decide, by decide⟩ rfl (Nat.le_of_ble_eq_true rfl) dX10_kind_5 (m_X0_hasThing hZ  e5) ?_
  show AW Z l iX10_kind (Pq (rI R)) 0 0 8 [(0, .ref (za Z 0 0)), (1, .int a1)] [.int r5] s5
  refine a_if_eq 23 dX10_kind_8 (by decide) (fun q1 => ?_) (fun q1 => ?_)
  · replace hF := (if_pos q1).symm.trans hF
    refine a_ldc (v := (-1000001)) kw_324 dX10_kind_23 ?_
    replace hF := Option.some.inj hF
    subst hF
    exact a_iret rfl (Nat.zero_le _) (Nat.zero_le _) dX10_kind_25 ⟨rfl, rfl⟩
  · replace hF := (if_neg q1).symm.trans hF
    refine a_aload_n dX10_kind_11 0 rfl rfl ?_
    refine a_getR hZ.1 (hZ.2 0 0 (by decide) Nat.one_pos) fl_X10_59 rfl 0 rfl dX10_kind_12 ?_
    refine a_getR hZ.1 (hZ.2 38 0 (by decide) Nat.one_pos) fl_X10_276 rfl 0 rfl dX10_kind_15 ?_
    refine a_iload_n dX10_kind_18 1 rfl rfl ?_
    obtain ⟨p2, hF⟩ := gd_some hF
    refine a_iald hZ.1 (s5 39 0 a1.toNatClampNeg) (hZ.2 39 0 (by decide) Nat.one_pos) rfl rfl (inb_vp p2) rfl dX10_kind_19 ?_
    refine a_goto 25 dX10_kind_20 (by decide) ?_
    replace hF := Option.some.inj hF
    subst hF
    exact a_iret rfl (Nat.zero_le _) (Nat.zero_le _) dX10_kind_25 ⟨rfl, rfl⟩
theorem m_X10_kind {Z : ZE} {l : Launch} (hZ : OkX Z) {a1 : Int32}  {s : St} {R : Int32 × St} (hF : F_X10_kind (zg Z) a1 s = some R) : Sp Z l yX10_kind iX10_kind [.ref (za Z 0 0), .int a1] s (rI R) :=
  Sp.of (by decide) rfl (Nat.le_of_ble_eq_true rfl) (w_X10_kind hZ  s hF)
-- X5_readBy
set_option maxRecDepth 100000 in
set_option maxHeartbeats 4000000 in
theorem w_X5_readBy_48 {Z : ZE} {l : Launch} (hZ : OkX Z) {a1 : Int32} {a2 : Int32}  {R : Int32 × St} (h5_ : Int32 → Int32 → St → Option (Int32 × St)) (w5_ : ∀ (v3 : Int32) (v4 : Int32)  (s : St), h5_ v3 v4 s = some R → AW Z l iX5_readBy (Pq (rI R)) 0 0 5 [(0, .ref (za Z 43 0)), (1, .int a1), (2, .int a2), (3, .int v3), (4, .int v4)] [] s) (v3 : Int32) (v4 : Int32)  (s : St) (hF : F_X5_readBy_48 (zg Z) a1 a2 h5_ v3 v4 s = some R) : AW Z l iX5_readBy (Pq (rI R)) 0 0 48 [(0, .ref (za Z 43 0)), (1, .int a1), (2, .int a2), (3, .int v3), (4, .int v4)] [] s := by
  unfold F_X5_readBy_48 at hF
  refine a_iinc [(4, .int (v4 + 1)), (0, .ref (za Z 43 0)), (1, .int a1), (2, .int a2), (3, .int v3)] dX5_readBy_48 4 rfl rfl (by decide) rfl ?_
  refine a_goto 5 dX5_readBy_51 (by decide) ?_
  refine a_loc [(0, .ref (za Z 43 0)), (1, .int a1), (2, .int a2), (3, .int v3), (4, .int (v4 + 1))] [1, 2, 3, 4, 0] rfl ?_
  exact w5_ v3 (v4 + 1)  _ hF
set_option maxRecDepth 100000 in
set_option maxHeartbeats 4000000 in
theorem w_X5_readBy_5 {Z : ZE} {l : Launch} (hZ : OkX Z) {a1 : Int32} {a2 : Int32}  {R : Int32 × St}  : ∀ (n_ : Nat) (v3 : Int32) (v4 : Int32)  (s : St), F_X5_readBy_5 (zg Z) a1 a2 n_ v3 v4 s = some R → AW Z l iX5_readBy (Pq (rI R)) 0 0 5 [(0, .ref (za Z 43 0)), (1, .int a1), (2, .int a2), (3, .int v3), (4, .int v4)] [] s := by
  intro n_
  induction n_ with
  | zero =>
    intro v3 v4 s hF
    exact absurd hF (by rw [F_X5_readBy_5]; exact fun q => by cases q)
  | succ n_ w5_ =>
    intro v3 v4 s hF
    rw [F_X5_readBy_5] at hF
    refine a_iload dX5_readBy_5 4 rfl ?_
    refine a_aload_n dX5_readBy_7 0 rfl rfl ?_
    refine a_getI hZ.1 (s 43 0 3) (hZ.2 43 0 (by decide) Nat.one_pos) fl_X5_21 rfl rfl dX5_readBy_8 ?_
    refine a_icmp_ge 54 dX5_readBy_11 (by decide) (fun q1 => ?_) (fun q1 => ?_)
    · replace hF := (if_pos q1).symm.trans hF
      refine a_iload_n dX5_readBy_54 3 rfl rfl ?_
      replace hF := Option.some.inj hF
      subst hF
      exact a_iret rfl (Nat.zero_le _) (Nat.zero_le _) dX5_readBy_55 ⟨rfl, rfl⟩
    · replace hF := (if_neg q1).symm.trans hF
      refine a_aload_n dX5_readBy_14 0 rfl rfl ?_
      refine a_getR hZ.1 (hZ.2 43 0 (by decide) Nat.one_pos) fl_X5_15 rfl 0 rfl dX5_readBy_15 ?_
      refine a_iload dX5_readBy_18 4 rfl ?_
      obtain ⟨p2, hF⟩ := gd_some hF
      refine a_iald hZ.1 (s 45 0 v4.toNatClampNeg) (hZ.2 45 0 (by decide) Nat.one_pos) rfl rfl (inb_vp p2) rfl dX5_readBy_20 ?_
      refine a_iload_n dX5_readBy_21 1 rfl rfl ?_
      refine a_icmp_ne 48 dX5_readBy_22 (by decide) (fun q3 => ?_) (fun q3 => ?_)
      · replace hF := (if_neg q3).symm.trans hF
        exact w_X5_readBy_48 (l := l) hZ  (F_X5_readBy_5 (zg Z) a1 a2 n_) w5_ v3 v4  _ hF
      · replace hF := (if_pos q3).symm.trans hF
        refine a_aload_n dX5_readBy_25 0 rfl rfl ?_
        refine a_getR hZ.1 (hZ.2 43 0 (by decide) Nat.one_pos) fl_X5_18 rfl 0 rfl dX5_readBy_26 ?_
        refine a_iload dX5_readBy_29 4 rfl ?_
        obtain ⟨p4, hF⟩ := gd_some hF
        refine a_iald hZ.1 (s 46 0 v4.toNatClampNeg) (hZ.2 46 0 (by decide) Nat.one_pos) rfl rfl (inb_vp p4) rfl dX5_readBy_31 ?_
        refine a_iload_n dX5_readBy_32 2 rfl rfl ?_
        refine a_icmp_gt 48 dX5_readBy_33 (by decide) (fun q5 => ?_) (fun q5 => ?_)
        · replace hF := (if_pos q5).symm.trans hF
          exact w_X5_readBy_48 (l := l) hZ  (F_X5_readBy_5 (zg Z) a1 a2 n_) w5_ v3 v4  _ hF
        · replace hF := (if_neg q5).symm.trans hF
          refine a_iload_n dX5_readBy_36 3 rfl rfl ?_
          refine a_iconst (v := (1 : Int32)) dX5_readBy_37 (by decide) ?_
          refine a_aload_n dX5_readBy_38 0 rfl rfl ?_
          refine a_getR hZ.1 (hZ.2 43 0 (by decide) Nat.one_pos) fl_X5_9 rfl 0 rfl dX5_readBy_39 ?_
          refine a_iload dX5_readBy_42 4 rfl ?_
          obtain ⟨p6, hF⟩ := gd_some hF
          refine a_iald hZ.1 (s 44 0 v4.toNatClampNeg) (hZ.2 44 0 (by decide) Nat.one_pos) rfl rfl (inb_vp p6) rfl dX5_readBy_44 ?_
          refine a_ishl dX5_readBy_45 ?_
          refine a_ior dX5_readBy_46 ?_
          refine a_istore_n [(3, .int (v3 ||| ((1 : Int32) <<< ((s 44 0 v4.toNatClampNeg) &&& 31)))), (0, .ref (za Z 43 0)), (1, .int a1), (2, .int a2), (4, .int v4)] dX5_readBy_47 rfl (by decide) rfl ?_
          refine a_loc [(0, .ref (za Z 43 0)), (1, .int a1), (2, .int a2), (3, .int (v3 ||| ((1 : Int32) <<< ((s 44 0 v4.toNatClampNeg) &&& 31)))), (4, .int v4)] [1, 2, 3, 0, 4] rfl ?_
          exact w_X5_readBy_48 (l := l) hZ  (F_X5_readBy_5 (zg Z) a1 a2 n_) w5_ (v3 ||| ((1 : Int32) <<< ((s 44 0 v4.toNatClampNeg) &&& 31))) v4  _ hF
set_option maxRecDepth 100000 in
set_option maxHeartbeats 4000000 in
theorem w_X5_readBy {Z : ZE} {l : Launch} (hZ : OkX Z) {a1 : Int32} {a2 : Int32}  {R : Int32 × St}    (s : St) (hF : F_X5_readBy (zg Z) a1 a2  s = some R) : AW Z l iX5_readBy (Pq (rI R)) 0 0 0 [(0, .ref (za Z 43 0)), (1, .int a1), (2, .int a2)] [] s := by
  unfold F_X5_readBy at hF
  refine a_iconst (v := (0 : Int32)) dX5_readBy_0 (by decide) ?_
  refine a_istore_n [(3, .int (0 : Int32)), (0, .ref (za Z 43 0)), (1, .int a1), (2, .int a2)] dX5_readBy_1 rfl (by decide) rfl ?_
  refine a_iconst (v := (0 : Int32)) dX5_readBy_2 (by decide) ?_
  refine a_istore [(4, .int (0 : Int32)), (3, .int (0 : Int32)), (0, .ref (za Z 43 0)), (1, .int a1), (2, .int a2)] dX5_readBy_3 (by decide) rfl ?_
  refine a_loc [(0, .ref (za Z 43 0)), (1, .int a1), (2, .int a2), (3, .int (0 : Int32)), (4, .int (0 : Int32))] [2, 3, 4, 1, 0] rfl ?_
  exact w_X5_readBy_5 (l := l) hZ   fu (0 : Int32) (0 : Int32)  _ hF
theorem m_X5_readBy {Z : ZE} {l : Launch} (hZ : OkX Z) {a1 : Int32} {a2 : Int32}  {s : St} {R : Int32 × St} (hF : F_X5_readBy (zg Z) a1 a2 s = some R) : Sp Z l yX5_readBy iX5_readBy [.ref (za Z 43 0), .int a1, .int a2] s (rI R) :=
  Sp.of (by decide) rfl (Nat.le_of_ble_eq_true rfl) (w_X5_readBy hZ  s hF)
-- X10_known
set_option maxRecDepth 100000 in
set_option maxHeartbeats 4000000 in
theorem w_X10_known {Z : ZE} {l : Launch} (hZ : OkX Z) {a1 : Int32} {a2 : Int32}  {R : Int32 × St}    (s : St) (hF : F_X10_known (zg Z) a1 a2  s = some R) : AW Z l iX10_known (Pq (rI R)) 0 0 0 [(0, .ref (za Z 0 0)), (1, .int a1), (2, .int a2)] [] s := by
  unfold F_X10_known at hF
  refine a_iload_n dX10_known_0 1 rfl rfl ?_
  refine a_iconst (v := (0 : Int32)) dX10_known_1 (by decide) ?_
  refine a_iconst (v := (3 : Int32)) dX10_known_2 (by decide) ?_
  obtain ⟨r3, s3, e3, hF⟩ := bd_some hF
  refine a_invS hZ.1 (As := [.int a1, .int (0 : Int32), .int (3 : Int32)]) (rest := []) lk_X10_75 ⟨⟨by decide, by decide⟩, by decide, by decide⟩ rfl (Nat.le_of_ble_eq_true rfl) dX10_known_3 (m_X10_within hZ  e3) ?_
  show AW Z l iX10_known (Pq (rI R)) 0 0 6 [(0, .ref (za Z 0 0)), (1, .int a1), (2, .int a2)] [.int r3] s3
  refine a_if_eq 16 dX10_known_6 (by decide) (fun q1 => ?_) (fun q1 => ?_)
  · replace hF := (if_pos q1).symm.trans hF
    refine a_ldc (v := (-1000001)) kw_324 dX10_known_16 ?_
    replace hF := Option.some.inj hF
    subst hF
    exact a_iret rfl (Nat.zero_le _) (Nat.zero_le _) dX10_known_18 ⟨rfl, rfl⟩
  · replace hF := (if_neg q1).symm.trans hF
    refine a_iload_n dX10_known_9 2 rfl rfl ?_
    obtain ⟨r10, s10, e10, hF⟩ := bd_some hF
    refine a_invS hZ.1 (As := [.int a2]) (rest := []) lk_X10_142 ⟨⟨by decide, by decide⟩, by decide, by decide⟩ rfl (Nat.le_of_ble_eq_true rfl) dX10_known_10 (m_X10_isWeek hZ  e10) ?_
    show AW Z l iX10_known (Pq (rI R)) 0 0 13 [(0, .ref (za Z 0 0)), (1, .int a1), (2, .int a2)] [.int r10] s10
    refine a_if_ne 19 dX10_known_13 (by decide) (fun q2 => ?_) (fun q2 => ?_)
    · replace hF := (if_neg q2).symm.trans hF
      refine a_aload_n dX10_known_19 0 rfl rfl ?_
      refine a_getR hZ.1 (hZ.2 0 0 (by decide) Nat.one_pos) fl_X10_66 rfl 0 rfl dX10_known_20 ?_
      refine a_iload_n dX10_known_23 1 rfl rfl ?_
      refine a_iload_n dX10_known_24 2 rfl rfl ?_
      obtain ⟨r25, s25, e25, hF⟩ := bd_some hF
      refine a_invV hZ.1 (As := [.int a1, .int a2]) (rest := []) (hZ.2 43 0 (by decide) Nat.one_pos) lk_X10_270 ⟨⟨by decide, by decide⟩, by decide, by decide⟩ rfl (Nat.le_of_ble_eq_true rfl) dX10_known_25 (m_X5_readBy hZ  e25) ?_
      show AW Z l iX10_known (Pq (rI R)) 0 0 28 [(0, .ref (za Z 0 0)), (1, .int a1), (2, .int a2)] [.int r25] s25
      replace hF := Option.some.inj hF
      subst hF
      exact a_iret rfl (Nat.zero_le _) (Nat.zero_le _) dX10_known_28 ⟨rfl, rfl⟩
    · replace hF := (if_pos q2).symm.trans hF
      refine a_ldc (v := (-1000001)) kw_324 dX10_known_16 ?_
      replace hF := Option.some.inj hF
      subst hF
      exact a_iret rfl (Nat.zero_le _) (Nat.zero_le _) dX10_known_18 ⟨rfl, rfl⟩
theorem m_X10_known {Z : ZE} {l : Launch} (hZ : OkX Z) {a1 : Int32} {a2 : Int32}  {s : St} {R : Int32 × St} (hF : F_X10_known (zg Z) a1 a2 s = some R) : Sp Z l yX10_known iX10_known [.ref (za Z 0 0), .int a1, .int a2] s (rI R) :=
  Sp.of (by decide) rfl (Nat.le_of_ble_eq_true rfl) (w_X10_known hZ  s hF)
-- X6_keepStaged
set_option maxRecDepth 100000 in
set_option maxHeartbeats 4000000 in
theorem w_X6_keepStaged {Z : ZE} {l : Launch} (hZ : OkX Z)   {R : Unit × St}    (s : St) (hF : F_X6_keepStaged (zg Z)   s = some R) : AW Z l iX6_keepStaged (Pq (rU R)) 0 0 0 [(0, .ref (za Z 17 0))] [] s := by
  unfold F_X6_keepStaged at hF
  refine a_aload_n dX6_keepStaged_0 0 rfl rfl ?_
  refine a_aload_n dX6_keepStaged_1 0 rfl rfl ?_
  refine a_getI hZ.1 (s 17 0 6) (hZ.2 17 0 (by decide) Nat.one_pos) fl_X6_31 rfl rfl dX6_keepStaged_2 ?_
  refine a_put hZ.1 (hZ.2 17 0 (by decide) Nat.one_pos) fl_X6_27 rfl rfl rfl dX6_keepStaged_5 ?_
  replace hF := Option.some.inj hF
  subst hF
  exact a_vret rfl (Nat.zero_le _) (Nat.zero_le _) dX6_keepStaged_8 ⟨rfl, rfl⟩
theorem m_X6_keepStaged {Z : ZE} {l : Launch} (hZ : OkX Z)   {s : St} {R : Unit × St} (hF : F_X6_keepStaged (zg Z)  s = some R) : Sp Z l yX6_keepStaged iX6_keepStaged [.ref (za Z 17 0)] s (rU R) :=
  Sp.of (by decide) rfl (Nat.le_of_ble_eq_true rfl) (w_X6_keepStaged hZ  s hF)
-- X6_stageNone
set_option maxRecDepth 100000 in
set_option maxHeartbeats 4000000 in
theorem w_X6_stageNone {Z : ZE} {l : Launch} (hZ : OkX Z)   {R : Unit × St}    (s : St) (hF : F_X6_stageNone (zg Z)   s = some R) : AW Z l iX6_stageNone (Pq (rU R)) 0 0 0 [(0, .ref (za Z 17 0))] [] s := by
  unfold F_X6_stageNone at hF
  refine a_aload_n dX6_stageNone_0 0 rfl rfl ?_
  refine a_aload_n dX6_stageNone_1 0 rfl rfl ?_
  refine a_getI hZ.1 (s 17 0 5) (hZ.2 17 0 (by decide) Nat.one_pos) fl_X6_27 rfl rfl dX6_stageNone_2 ?_
  refine a_put hZ.1 (hZ.2 17 0 (by decide) Nat.one_pos) fl_X6_31 rfl rfl rfl dX6_stageNone_5 ?_
  replace hF := Option.some.inj hF
  subst hF
  exact a_vret rfl (Nat.zero_le _) (Nat.zero_le _) dX6_stageNone_8 ⟨rfl, rfl⟩
theorem m_X6_stageNone {Z : ZE} {l : Launch} (hZ : OkX Z)   {s : St} {R : Unit × St} (hF : F_X6_stageNone (zg Z)  s = some R) : Sp Z l yX6_stageNone iX6_stageNone [.ref (za Z 17 0)] s (rU R) :=
  Sp.of (by decide) rfl (Nat.le_of_ble_eq_true rfl) (w_X6_stageNone hZ  s hF)
-- X8_faulty
set_option maxRecDepth 100000 in
set_option maxHeartbeats 4000000 in
theorem w_X8_faulty {Z : ZE} {l : Launch} (hZ : OkX Z) {a1 : Int32}  {R : Int32 × St}    (s : St) (hF : F_X8_faulty (zg Z) a1  s = some R) : AW Z l iX8_faulty (Pq (rI R)) 0 0 0 [(0, .ref (za Z 23 0)), (1, .int a1)] [] s := by
  unfold F_X8_faulty at hF
  refine a_aload_n dX8_faulty_0 0 rfl rfl ?_
  refine a_iload_n dX8_faulty_1 1 rfl rfl ?_
  refine a_put hZ.1 (hZ.2 23 0 (by decide) Nat.one_pos) fl_X8_95 rfl rfl rfl dX8_faulty_2 ?_
  refine a_aload_n dX8_faulty_5 0 rfl rfl ?_
  refine a_aload_n dX8_faulty_6 0 rfl rfl ?_
  refine a_getI hZ.1 (s 23 0 5) (hZ.2 23 0 (by decide) Nat.one_pos) fl_X8_84 rfl (by simp [up]) dX8_faulty_7 ?_
  refine a_put hZ.1 (hZ.2 23 0 (by decide) Nat.one_pos) fl_X8_98 rfl rfl rfl dX8_faulty_10 ?_
  refine a_iconst (v := (0 : Int32)) dX8_faulty_13 (by decide) ?_
  replace hF := Option.some.inj hF
  subst hF
  exact a_zret rfl rfl (Nat.zero_le _) (Nat.zero_le _) dX8_faulty_14 ⟨rfl, rfl⟩
theorem m_X8_faulty {Z : ZE} {l : Launch} (hZ : OkX Z) {a1 : Int32}  {s : St} {R : Int32 × St} (hF : F_X8_faulty (zg Z) a1 s = some R) : Sp Z l yX8_faulty iX8_faulty [.ref (za Z 23 0), .int a1] s (rI R) :=
  Sp.of (by decide) rfl (Nat.le_of_ble_eq_true rfl) (w_X8_faulty hZ  s hF)
-- X8_isNumberTo
set_option maxRecDepth 100000 in
set_option maxHeartbeats 4000000 in
theorem w_X8_isNumberTo {Z : ZE} {l : Launch} (hZ : OkX Z) {a1 : Int32}  {R : Int32 × St}    (s : St) (hF : F_X8_isNumberTo (zg Z) a1  s = some R) : AW Z l iX8_isNumberTo (Pq (rI R)) 0 0 0 [(0, .ref (za Z 23 0)), (1, .int a1)] [] s := by
  unfold F_X8_isNumberTo at hF
  refine a_aload_n dX8_isNumberTo_0 0 rfl rfl ?_
  refine a_getI hZ.1 (s 23 0 4) (hZ.2 23 0 (by decide) Nat.one_pos) fl_X8_31 rfl rfl dX8_isNumberTo_1 ?_
  refine a_iconst (v := (2 : Int32)) dX8_isNumberTo_4 (by decide) ?_
  refine a_icmp_eq 14 dX8_isNumberTo_5 (by decide) (fun q1 => ?_) (fun q1 => ?_)
  · replace hF := (if_pos q1).symm.trans hF
    refine a_aload_n dX8_isNumberTo_14 0 rfl rfl ?_
    refine a_getI hZ.1 (s 23 0 7) (hZ.2 23 0 (by decide) Nat.one_pos) fl_X8_51 rfl rfl dX8_isNumberTo_15 ?_
    refine a_iload_n dX8_isNumberTo_18 1 rfl rfl ?_
    refine a_icmp_le 30 dX8_isNumberTo_19 (by decide) (fun q2 => ?_) (fun q2 => ?_)
    · replace hF := (if_pos q2).symm.trans hF
      refine a_iconst (v := (1 : Int32)) dX8_isNumberTo_30 (by decide) ?_
      refine a_goto 35 dX8_isNumberTo_31 (by decide) ?_
      replace hF := Option.some.inj hF
      subst hF
      exact a_zret rfl rfl (Nat.zero_le _) (Nat.zero_le _) dX8_isNumberTo_35 ⟨rfl, rfl⟩
    · replace hF := (if_neg q2).symm.trans hF
      refine a_aload_n dX8_isNumberTo_22 0 rfl rfl ?_
      refine a_iconst (v := (2 : Int32)) dX8_isNumberTo_23 (by decide) ?_
      obtain ⟨r24, s24, e24, hF⟩ := bd_some hF
      refine a_invV hZ.1 (As := [.int (2 : Int32)]) (rest := []) (hZ.2 23 0 (by decide) Nat.one_pos) lk_X8_44 ⟨⟨by decide, by decide⟩, by decide, by decide⟩ rfl (Nat.le_of_ble_eq_true rfl) dX8_isNumberTo_24 (m_X8_faulty hZ  e24) ?_
      show AW Z l iX8_isNumberTo (Pq (rI R)) 0 0 27 [(0, .ref (za Z 23 0)), (1, .int a1)] [.int r24] s24
      refine a_if_eq 34 dX8_isNumberTo_27 (by decide) (fun q3 => ?_) (fun q3 => ?_)
      · replace hF := (if_pos q3).symm.trans hF
        refine a_iconst (v := (0 : Int32)) dX8_isNumberTo_34 (by decide) ?_
        replace hF := Option.some.inj hF
        subst hF
        exact a_zret rfl rfl (Nat.zero_le _) (Nat.zero_le _) dX8_isNumberTo_35 ⟨rfl, rfl⟩
      · replace hF := (if_neg q3).symm.trans hF
        refine a_iconst (v := (1 : Int32)) dX8_isNumberTo_30 (by decide) ?_
        refine a_goto 35 dX8_isNumberTo_31 (by decide) ?_
        replace hF := Option.some.inj hF
        subst hF
        exact a_zret rfl rfl (Nat.zero_le _) (Nat.zero_le _) dX8_isNumberTo_35 ⟨rfl, rfl⟩
  · replace hF := (if_neg q1).symm.trans hF
    refine a_aload_n dX8_isNumberTo_8 0 rfl rfl ?_
    refine a_iconst (v := (1 : Int32)) dX8_isNumberTo_9 (by decide) ?_
    obtain ⟨r10, s10, e10, hF⟩ := bd_some hF
    refine a_invV hZ.1 (As := [.int (1 : Int32)]) (rest := []) (hZ.2 23 0 (by decide) Nat.one_pos) lk_X8_44 ⟨⟨by decide, by decide⟩, by decide, by decide⟩ rfl (Nat.le_of_ble_eq_true rfl) dX8_isNumberTo_10 (m_X8_faulty hZ  e10) ?_
    show AW Z l iX8_isNumberTo (Pq (rI R)) 0 0 13 [(0, .ref (za Z 23 0)), (1, .int a1)] [.int r10] s10
    obtain ⟨p4, hF⟩ := gd_some hF
    replace hF := Option.some.inj hF
    subst hF
    exact a_zret rfl (isb_n p4) (Nat.zero_le _) (Nat.zero_le _) dX8_isNumberTo_13 ⟨rfl, rfl⟩
theorem m_X8_isNumberTo {Z : ZE} {l : Launch} (hZ : OkX Z) {a1 : Int32}  {s : St} {R : Int32 × St} (hF : F_X8_isNumberTo (zg Z) a1 s = some R) : Sp Z l yX8_isNumberTo iX8_isNumberTo [.ref (za Z 23 0), .int a1] s (rI R) :=
  Sp.of (by decide) rfl (Nat.le_of_ble_eq_true rfl) (w_X8_isNumberTo hZ  s hF)
-- X8_isWord
set_option maxRecDepth 100000 in
set_option maxHeartbeats 4000000 in
theorem w_X8_isWord_28 {Z : ZE} {l : Launch} (hZ : OkX Z) {c1 : Nat} (hc1 : c1 < 6) {R : Int32 × St}  : ∀ (n_ : Nat) (v2 : Int32)  (s : St), F_X8_isWord_28 (zg Z) c1 n_ v2 s = some R → AW Z l iX8_isWord (Pq (rI R)) 0 0 28 [(0, .ref (za Z 23 0)), (1, .ref (za Z 110 c1)), (2, .int v2)] [] s := by
  intro n_
  induction n_ with
  | zero =>
    intro v2 s hF
    exact absurd hF (by rw [F_X8_isWord_28]; exact fun q => by cases q)
  | succ n_ w28_ =>
    intro v2 s hF
    rw [F_X8_isWord_28] at hF
    refine a_iload_n dX8_isWord_28 2 rfl rfl ?_
    refine a_aload_n dX8_isWord_29 1 rfl rfl ?_
    refine a_strlen hZ hc1 lk_X8_87 ⟨⟨by decide, by decide⟩, by decide, by decide⟩ (Nat.le_of_ble_eq_true rfl) dX8_isWord_30 ?_
    refine a_icmp_ge 63 dX8_isWord_33 (by decide) (fun q1 => ?_) (fun q1 => ?_)
    · replace hF := (if_pos q1).symm.trans hF
      refine a_iconst (v := (1 : Int32)) dX8_isWord_63 (by decide) ?_
      replace hF := Option.some.inj hF
      subst hF
      exact a_zret rfl rfl (Nat.zero_le _) (Nat.zero_le _) dX8_isWord_64 ⟨rfl, rfl⟩
    · replace hF := (if_neg q1).symm.trans hF
      refine a_aload_n dX8_isWord_36 0 rfl rfl ?_
      refine a_getR hZ.1 (hZ.2 23 0 (by decide) Nat.one_pos) fl_X8_11 rfl 0 rfl dX8_isWord_37 ?_
      refine a_aload_n dX8_isWord_40 0 rfl rfl ?_
      refine a_getI hZ.1 (s 23 0 5) (hZ.2 23 0 (by decide) Nat.one_pos) fl_X8_84 rfl rfl dX8_isWord_41 ?_
      refine a_iload_n dX8_isWord_44 2 rfl rfl ?_
      refine a_iadd dX8_isWord_45 ?_
      obtain ⟨p2, hF⟩ := gd_some hF
      refine a_iald hZ.1 (s 24 0 ((s 23 0 5) + v2).toNatClampNeg) (hZ.2 24 0 (by decide) Nat.one_pos) rfl rfl (inb_vp p2) rfl dX8_isWord_46 ?_
      refine a_aload_n dX8_isWord_47 1 rfl rfl ?_
      refine a_iload_n dX8_isWord_48 2 rfl rfl ?_
      obtain ⟨p3, hF⟩ := gd_some hF
      refine a_charAt hZ hc1 p3 lk_X8_91 ⟨⟨by decide, by decide⟩, by decide, by decide⟩ (Nat.le_of_ble_eq_true rfl) dX8_isWord_49 ?_
      refine a_icmp_eq 57 dX8_isWord_52 (by decide) (fun q4 => ?_) (fun q4 => ?_)
      · replace hF := (if_pos q4).symm.trans hF
        refine a_iinc [(2, .int (v2 + 1)), (0, .ref (za Z 23 0)), (1, .ref (za Z 110 c1))] dX8_isWord_57 2 rfl rfl (by decide) rfl ?_
        refine a_goto 28 dX8_isWord_60 (by decide) ?_
        refine a_loc [(0, .ref (za Z 23 0)), (1, .ref (za Z 110 c1)), (2, .int (v2 + 1))] [1, 2, 0] rfl ?_
        exact w28_ (v2 + 1)  _ hF
      · replace hF := (if_neg q4).symm.trans hF
        refine a_iconst (v := (0 : Int32)) dX8_isWord_55 (by decide) ?_
        replace hF := Option.some.inj hF
        subst hF
        exact a_zret rfl rfl (Nat.zero_le _) (Nat.zero_le _) dX8_isWord_56 ⟨rfl, rfl⟩
set_option maxRecDepth 100000 in
set_option maxHeartbeats 4000000 in
theorem w_X8_isWord {Z : ZE} {l : Launch} (hZ : OkX Z) {c1 : Nat} (hc1 : c1 < 6) {R : Int32 × St}    (s : St) (hF : F_X8_isWord (zg Z) c1  s = some R) : AW Z l iX8_isWord (Pq (rI R)) 0 0 0 [(0, .ref (za Z 23 0)), (1, .ref (za Z 110 c1))] [] s := by
  unfold F_X8_isWord at hF
  refine a_aload_n dX8_isWord_0 0 rfl rfl ?_
  refine a_getI hZ.1 (s 23 0 4) (hZ.2 23 0 (by decide) Nat.one_pos) fl_X8_31 rfl rfl dX8_isWord_1 ?_
  refine a_iconst (v := (1 : Int32)) dX8_isWord_4 (by decide) ?_
  refine a_icmp_ne 24 dX8_isWord_5 (by decide) (fun q1 => ?_) (fun q1 => ?_)
  · replace hF := (if_neg q1).symm.trans hF
    refine a_iconst (v := (0 : Int32)) dX8_isWord_24 (by decide) ?_
    replace hF := Option.some.inj hF
    subst hF
    exact a_zret rfl rfl (Nat.zero_le _) (Nat.zero_le _) dX8_isWord_25 ⟨rfl, rfl⟩
  · replace hF := (if_pos q1).symm.trans hF
    refine a_aload_n dX8_isWord_8 0 rfl rfl ?_
    refine a_getI hZ.1 (s 23 0 6) (hZ.2 23 0 (by decide) Nat.one_pos) fl_X8_25 rfl rfl dX8_isWord_9 ?_
    refine a_aload_n dX8_isWord_12 0 rfl rfl ?_
    refine a_getI hZ.1 (s 23 0 5) (hZ.2 23 0 (by decide) Nat.one_pos) fl_X8_84 rfl rfl dX8_isWord_13 ?_
    refine a_isub dX8_isWord_16 ?_
    refine a_aload_n dX8_isWord_17 1 rfl rfl ?_
    refine a_strlen hZ hc1 lk_X8_87 ⟨⟨by decide, by decide⟩, by decide, by decide⟩ (Nat.le_of_ble_eq_true rfl) dX8_isWord_18 ?_
    refine a_icmp_eq 26 dX8_isWord_21 (by decide) (fun q2 => ?_) (fun q2 => ?_)
    · replace hF := (if_pos q2).symm.trans hF
      refine a_iconst (v := (0 : Int32)) dX8_isWord_26 (by decide) ?_
      refine a_istore_n [(2, .int (0 : Int32)), (0, .ref (za Z 23 0)), (1, .ref (za Z 110 c1))] dX8_isWord_27 rfl (by decide) rfl ?_
      refine a_loc [(0, .ref (za Z 23 0)), (1, .ref (za Z 110 c1)), (2, .int (0 : Int32))] [1, 2, 0] rfl ?_
      exact w_X8_isWord_28 (l := l) hZ hc1  fu (0 : Int32)  _ hF
    · replace hF := (if_neg q2).symm.trans hF
      refine a_iconst (v := (0 : Int32)) dX8_isWord_24 (by decide) ?_
      replace hF := Option.some.inj hF
      subst hF
      exact a_zret rfl rfl (Nat.zero_le _) (Nat.zero_le _) dX8_isWord_25 ⟨rfl, rfl⟩
theorem m_X8_isWord {Z : ZE} {l : Launch} (hZ : OkX Z) {c1 : Nat} (hc1 : c1 < 6) {s : St} {R : Int32 × St} (hF : F_X8_isWord (zg Z) c1 s = some R) : Sp Z l yX8_isWord iX8_isWord [.ref (za Z 23 0), .ref (za Z 110 c1)] s (rI R) :=
  Sp.of (by decide) rfl (Nat.le_of_ble_eq_true rfl) (w_X8_isWord hZ hc1 s hF)
-- X6_hasRoom
set_option maxRecDepth 100000 in
set_option maxHeartbeats 4000000 in
theorem w_X6_hasRoom {Z : ZE} {l : Launch} (hZ : OkX Z)   {R : Int32 × St}    (s : St) (hF : F_X6_hasRoom (zg Z)   s = some R) : AW Z l iX6_hasRoom (Pq (rI R)) 0 0 0 [(0, .ref (za Z 17 0))] [] s := by
  unfold F_X6_hasRoom at hF
  refine a_aload_n dX6_hasRoom_0 0 rfl rfl ?_
  refine a_getI hZ.1 (s 17 0 6) (hZ.2 17 0 (by decide) Nat.one_pos) fl_X6_31 rfl rfl dX6_hasRoom_1 ?_
  refine a_bipush (v := (30 : Int32)) dX6_hasRoom_4 (by decide) ?_
  refine a_icmp_ge 13 dX6_hasRoom_6 (by decide) (fun q1 => ?_) (fun q1 => ?_)
  · replace hF := (if_pos q1).symm.trans hF
    refine a_iconst (v := (0 : Int32)) dX6_hasRoom_13 (by decide) ?_
    replace hF := Option.some.inj hF
    subst hF
    exact a_zret rfl rfl (Nat.zero_le _) (Nat.zero_le _) dX6_hasRoom_14 ⟨rfl, rfl⟩
  · replace hF := (if_neg q1).symm.trans hF
    refine a_iconst (v := (1 : Int32)) dX6_hasRoom_9 (by decide) ?_
    refine a_goto 14 dX6_hasRoom_10 (by decide) ?_
    replace hF := Option.some.inj hF
    subst hF
    exact a_zret rfl rfl (Nat.zero_le _) (Nat.zero_le _) dX6_hasRoom_14 ⟨rfl, rfl⟩
theorem m_X6_hasRoom {Z : ZE} {l : Launch} (hZ : OkX Z)   {s : St} {R : Int32 × St} (hF : F_X6_hasRoom (zg Z)  s = some R) : Sp Z l yX6_hasRoom iX6_hasRoom [.ref (za Z 17 0)] s (rI R) :=
  Sp.of (by decide) rfl (Nat.le_of_ble_eq_true rfl) (w_X6_hasRoom hZ  s hF)
-- X6_stage
set_option maxRecDepth 100000 in
set_option maxHeartbeats 4000000 in
theorem w_X6_stage {Z : ZE} {l : Launch} (hZ : OkX Z) {a1 : Int32} {a2 : Int32} {a3 : Int32}  {R : Unit × St}    (s : St) (hF : F_X6_stage (zg Z) a1 a2 a3  s = some R) : AW Z l iX6_stage (Pq (rU R)) 0 0 0 [(0, .ref (za Z 17 0)), (1, .int a1), (2, .int a2), (3, .int a3)] [] s := by
  unfold F_X6_stage at hF
  refine a_aload_n dX6_stage_0 0 rfl rfl ?_
  obtain ⟨r1, s1, e1, hF⟩ := bd_some hF
  refine a_invV hZ.1 (As := []) (rest := []) (hZ.2 17 0 (by decide) Nat.one_pos) lk_X6_34 ⟨⟨by decide, by decide⟩, by decide, by decide⟩ rfl (Nat.le_of_ble_eq_true rfl) dX6_stage_1 (m_X6_hasRoom hZ  e1) ?_
  show AW Z l iX6_stage (Pq (rU R)) 0 0 4 [(0, .ref (za Z 17 0)), (1, .int a1), (2, .int a2), (3, .int a3)] [.int r1] s1
  refine a_if_eq 47 dX6_stage_4 (by decide) (fun q1 => ?_) (fun q1 => ?_)
  · replace hF := (if_pos q1).symm.trans hF
    replace hF := Option.some.inj hF
    subst hF
    exact a_vret rfl (Nat.zero_le _) (Nat.zero_le _) dX6_stage_47 ⟨rfl, rfl⟩
  · replace hF := (if_neg q1).symm.trans hF
    refine a_aload_n dX6_stage_7 0 rfl rfl ?_
    refine a_getR hZ.1 (hZ.2 17 0 (by decide) Nat.one_pos) fl_X6_11 rfl 0 rfl dX6_stage_8 ?_
    refine a_aload_n dX6_stage_11 0 rfl rfl ?_
    refine a_getI hZ.1 (s1 17 0 6) (hZ.2 17 0 (by decide) Nat.one_pos) fl_X6_31 rfl rfl dX6_stage_12 ?_
    refine a_iload_n dX6_stage_15 1 rfl rfl ?_
    obtain ⟨p2, hF⟩ := gd_some hF
    refine a_iast hZ.1 (hZ.2 18 0 (by decide) Nat.one_pos) rfl rfl (inb_vp p2) dX6_stage_16 ?_
    refine a_aload_n dX6_stage_17 0 rfl rfl ?_
    refine a_getR hZ.1 (hZ.2 17 0 (by decide) Nat.one_pos) fl_X6_15 rfl 0 rfl dX6_stage_18 ?_
    refine a_aload_n dX6_stage_21 0 rfl rfl ?_
    refine a_getI hZ.1 (s1 17 0 6) (hZ.2 17 0 (by decide) Nat.one_pos) fl_X6_31 rfl rfl dX6_stage_22 ?_
    refine a_iload_n dX6_stage_25 2 rfl rfl ?_
    obtain ⟨p3, hF⟩ := gd_some hF
    refine a_iast hZ.1 (hZ.2 19 0 (by decide) Nat.one_pos) rfl rfl (inb_vp p3) dX6_stage_26 ?_
    refine a_aload_n dX6_stage_27 0 rfl rfl ?_
    refine a_getR hZ.1 (hZ.2 17 0 (by decide) Nat.one_pos) fl_X6_18 rfl 0 rfl dX6_stage_28 ?_
    refine a_aload_n dX6_stage_31 0 rfl rfl ?_
    refine a_getI hZ.1 (s1 17 0 6) (hZ.2 17 0 (by decide) Nat.one_pos) fl_X6_31 rfl rfl dX6_stage_32 ?_
    refine a_iload_n dX6_stage_35 3 rfl rfl ?_
    obtain ⟨p4, hF⟩ := gd_some hF
    refine a_iast hZ.1 (hZ.2 20 0 (by decide) Nat.one_pos) rfl rfl (inb_vp p4) dX6_stage_36 ?_
    refine a_aload_n dX6_stage_37 0 rfl rfl ?_
    refine a_dup dX6_stage_38 rfl ?_
    refine a_getI hZ.1 (s1 17 0 6) (hZ.2 17 0 (by decide) Nat.one_pos) fl_X6_31 rfl rfl dX6_stage_39 ?_
    refine a_iconst (v := (1 : Int32)) dX6_stage_42 (by decide) ?_
    refine a_iadd dX6_stage_43 ?_
    refine a_put hZ.1 (hZ.2 17 0 (by decide) Nat.one_pos) fl_X6_31 rfl rfl rfl dX6_stage_44 ?_
    replace hF := Option.some.inj hF
    subst hF
    exact a_vret rfl (Nat.zero_le _) (Nat.zero_le _) dX6_stage_47 ⟨rfl, rfl⟩
theorem m_X6_stage {Z : ZE} {l : Launch} (hZ : OkX Z) {a1 : Int32} {a2 : Int32} {a3 : Int32}  {s : St} {R : Unit × St} (hF : F_X6_stage (zg Z) a1 a2 a3 s = some R) : Sp Z l yX6_stage iX6_stage [.ref (za Z 17 0), .int a1, .int a2, .int a3] s (rU R) :=
  Sp.of (by decide) rfl (Nat.le_of_ble_eq_true rfl) (w_X6_stage hZ  s hF)
-- X8_ruleOfWord
set_option maxRecDepth 100000 in
set_option maxHeartbeats 4000000 in
theorem w_X8_ruleOfWord {Z : ZE} {l : Launch} (hZ : OkX Z)   {R : Int32 × St}    (s : St) (hF : F_X8_ruleOfWord (zg Z)   s = some R) : AW Z l iX8_ruleOfWord (Pq (rI R)) 0 0 0 [(0, .ref (za Z 23 0))] [] s := by
  unfold F_X8_ruleOfWord at hF
  refine a_aload_n dX8_ruleOfWord_0 0 rfl rfl ?_
  refine a_ldcS hZ.1 (c := 1) (by decide) rfl rfl dX8_ruleOfWord_1 ?_
  obtain ⟨r3, s3, e3, hF⟩ := bd_some hF
  refine a_invV hZ.1 (As := [.ref (za Z 110 1)]) (rest := []) (hZ.2 23 0 (by decide) Nat.one_pos) lk_X8_40 ⟨⟨by decide, by decide⟩, by decide, by decide⟩ rfl (Nat.le_of_ble_eq_true rfl) dX8_ruleOfWord_3 (m_X8_isWord hZ (by decide) e3) ?_
  show AW Z l iX8_ruleOfWord (Pq (rI R)) 0 0 6 [(0, .ref (za Z 23 0))] [.int r3] s3
  refine a_if_eq 11 dX8_ruleOfWord_6 (by decide) (fun q1 => ?_) (fun q1 => ?_)
  · replace hF := (if_pos q1).symm.trans hF
    refine a_aload_n dX8_ruleOfWord_11 0 rfl rfl ?_
    refine a_ldcS hZ.1 (c := 2) (by decide) rfl rfl dX8_ruleOfWord_12 ?_
    obtain ⟨r14, s14, e14, hF⟩ := bd_some hF
    refine a_invV hZ.1 (As := [.ref (za Z 110 2)]) (rest := []) (hZ.2 23 0 (by decide) Nat.one_pos) lk_X8_40 ⟨⟨by decide, by decide⟩, by decide, by decide⟩ rfl (Nat.le_of_ble_eq_true rfl) dX8_ruleOfWord_14 (m_X8_isWord hZ (by decide) e14) ?_
    show AW Z l iX8_ruleOfWord (Pq (rI R)) 0 0 17 [(0, .ref (za Z 23 0))] [.int r14] s14
    refine a_if_eq 22 dX8_ruleOfWord_17 (by decide) (fun q2 => ?_) (fun q2 => ?_)
    · replace hF := (if_pos q2).symm.trans hF
      refine a_aload_n dX8_ruleOfWord_22 0 rfl rfl ?_
      refine a_ldcS hZ.1 (c := 3) (by decide) rfl rfl dX8_ruleOfWord_23 ?_
      obtain ⟨r25, s25, e25, hF⟩ := bd_some hF
      refine a_invV hZ.1 (As := [.ref (za Z 110 3)]) (rest := []) (hZ.2 23 0 (by decide) Nat.one_pos) lk_X8_40 ⟨⟨by decide, by decide⟩, by decide, by decide⟩ rfl (Nat.le_of_ble_eq_true rfl) dX8_ruleOfWord_25 (m_X8_isWord hZ (by decide) e25) ?_
      show AW Z l iX8_ruleOfWord (Pq (rI R)) 0 0 28 [(0, .ref (za Z 23 0))] [.int r25] s25
      refine a_if_eq 33 dX8_ruleOfWord_28 (by decide) (fun q3 => ?_) (fun q3 => ?_)
      · replace hF := (if_pos q3).symm.trans hF
        refine a_aload_n dX8_ruleOfWord_33 0 rfl rfl ?_
        refine a_ldcS hZ.1 (c := 4) (by decide) rfl rfl dX8_ruleOfWord_34 ?_
        obtain ⟨r36, s36, e36, hF⟩ := bd_some hF
        refine a_invV hZ.1 (As := [.ref (za Z 110 4)]) (rest := []) (hZ.2 23 0 (by decide) Nat.one_pos) lk_X8_40 ⟨⟨by decide, by decide⟩, by decide, by decide⟩ rfl (Nat.le_of_ble_eq_true rfl) dX8_ruleOfWord_36 (m_X8_isWord hZ (by decide) e36) ?_
        show AW Z l iX8_ruleOfWord (Pq (rI R)) 0 0 39 [(0, .ref (za Z 23 0))] [.int r36] s36
        refine a_if_eq 45 dX8_ruleOfWord_39 (by decide) (fun q4 => ?_) (fun q4 => ?_)
        · replace hF := (if_pos q4).symm.trans hF
          refine a_aload_n dX8_ruleOfWord_45 0 rfl rfl ?_
          refine a_ldcS hZ.1 (c := 5) (by decide) rfl rfl dX8_ruleOfWord_46 ?_
          obtain ⟨r48, s48, e48, hF⟩ := bd_some hF
          refine a_invV hZ.1 (As := [.ref (za Z 110 5)]) (rest := []) (hZ.2 23 0 (by decide) Nat.one_pos) lk_X8_40 ⟨⟨by decide, by decide⟩, by decide, by decide⟩ rfl (Nat.le_of_ble_eq_true rfl) dX8_ruleOfWord_48 (m_X8_isWord hZ (by decide) e48) ?_
          show AW Z l iX8_ruleOfWord (Pq (rI R)) 0 0 51 [(0, .ref (za Z 23 0))] [.int r48] s48
          refine a_if_eq 59 dX8_ruleOfWord_51 (by decide) (fun q5 => ?_) (fun q5 => ?_)
          · replace hF := (if_pos q5).symm.trans hF
            refine a_ldc (v := (-1000000)) kw_705 dX8_ruleOfWord_59 ?_
            replace hF := Option.some.inj hF
            subst hF
            exact a_iret rfl (Nat.zero_le _) (Nat.zero_le _) dX8_ruleOfWord_61 ⟨rfl, rfl⟩
          · replace hF := (if_neg q5).symm.trans hF
            refine a_bipush (v := (7 : Int32)) dX8_ruleOfWord_54 (by decide) ?_
            refine a_goto 61 dX8_ruleOfWord_56 (by decide) ?_
            replace hF := Option.some.inj hF
            subst hF
            exact a_iret rfl (Nat.zero_le _) (Nat.zero_le _) dX8_ruleOfWord_61 ⟨rfl, rfl⟩
        · replace hF := (if_neg q4).symm.trans hF
          refine a_bipush (v := (6 : Int32)) dX8_ruleOfWord_42 (by decide) ?_
          replace hF := Option.some.inj hF
          subst hF
          exact a_iret rfl (Nat.zero_le _) (Nat.zero_le _) dX8_ruleOfWord_44 ⟨rfl, rfl⟩
      · replace hF := (if_neg q3).symm.trans hF
        refine a_iconst (v := (5 : Int32)) dX8_ruleOfWord_31 (by decide) ?_
        replace hF := Option.some.inj hF
        subst hF
        exact a_iret rfl (Nat.zero_le _) (Nat.zero_le _) dX8_ruleOfWord_32 ⟨rfl, rfl⟩
    · replace hF := (if_neg q2).symm.trans hF
      refine a_iconst (v := (4 : Int32)) dX8_ruleOfWord_20 (by decide) ?_
      replace hF := Option.some.inj hF
      subst hF
      exact a_iret rfl (Nat.zero_le _) (Nat.zero_le _) dX8_ruleOfWord_21 ⟨rfl, rfl⟩
  · replace hF := (if_neg q1).symm.trans hF
    refine a_iconst (v := (0 : Int32)) dX8_ruleOfWord_9 (by decide) ?_
    replace hF := Option.some.inj hF
    subst hF
    exact a_iret rfl (Nat.zero_le _) (Nat.zero_le _) dX8_ruleOfWord_10 ⟨rfl, rfl⟩
theorem m_X8_ruleOfWord {Z : ZE} {l : Launch} (hZ : OkX Z)   {s : St} {R : Int32 × St} (hF : F_X8_ruleOfWord (zg Z)  s = some R) : Sp Z l yX8_ruleOfWord iX8_ruleOfWord [.ref (za Z 23 0)] s (rI R) :=
  Sp.of (by decide) rfl (Nat.le_of_ble_eq_true rfl) (w_X8_ruleOfWord hZ  s hF)
-- X8_isFigure
set_option maxRecDepth 100000 in
set_option maxHeartbeats 4000000 in
theorem w_X8_isFigure {Z : ZE} {l : Launch} (hZ : OkX Z) {a0 : Int32}  {R : Int32 × St}    (s : St) (hF : F_X8_isFigure (zg Z) a0  s = some R) : AW Z l iX8_isFigure (Pq (rI R)) 0 0 0 [(0, .int a0)] [] s := by
  unfold F_X8_isFigure at hF
  refine a_iload_n dX8_isFigure_0 0 rfl rfl ?_
  refine a_bipush (v := (48 : Int32)) dX8_isFigure_1 (by decide) ?_
  refine a_icmp_lt 16 dX8_isFigure_3 (by decide) (fun q1 => ?_) (fun q1 => ?_)
  · replace hF := (if_pos q1).symm.trans hF
    refine a_iconst (v := (0 : Int32)) dX8_isFigure_16 (by decide) ?_
    replace hF := Option.some.inj hF
    subst hF
    exact a_zret rfl rfl (Nat.zero_le _) (Nat.zero_le _) dX8_isFigure_17 ⟨rfl, rfl⟩
  · replace hF := (if_neg q1).symm.trans hF
    refine a_iload_n dX8_isFigure_6 0 rfl rfl ?_
    refine a_bipush (v := (57 : Int32)) dX8_isFigure_7 (by decide) ?_
    refine a_icmp_gt 16 dX8_isFigure_9 (by decide) (fun q2 => ?_) (fun q2 => ?_)
    · replace hF := (if_pos q2).symm.trans hF
      refine a_iconst (v := (0 : Int32)) dX8_isFigure_16 (by decide) ?_
      replace hF := Option.some.inj hF
      subst hF
      exact a_zret rfl rfl (Nat.zero_le _) (Nat.zero_le _) dX8_isFigure_17 ⟨rfl, rfl⟩
    · replace hF := (if_neg q2).symm.trans hF
      refine a_iconst (v := (1 : Int32)) dX8_isFigure_12 (by decide) ?_
      refine a_goto 17 dX8_isFigure_13 (by decide) ?_
      replace hF := Option.some.inj hF
      subst hF
      exact a_zret rfl rfl (Nat.zero_le _) (Nat.zero_le _) dX8_isFigure_17 ⟨rfl, rfl⟩
theorem m_X8_isFigure {Z : ZE} {l : Launch} (hZ : OkX Z) {a0 : Int32}  {s : St} {R : Int32 × St} (hF : F_X8_isFigure (zg Z) a0 s = some R) : Sp Z l yX8_isFigure iX8_isFigure [.int a0] s (rI R) :=
  Sp.of (by decide) rfl (Nat.le_of_ble_eq_true rfl) (w_X8_isFigure hZ  s hF)
-- X8_isGap
set_option maxRecDepth 100000 in
set_option maxHeartbeats 4000000 in
theorem w_X8_isGap {Z : ZE} {l : Launch} (hZ : OkX Z) {a0 : Int32}  {R : Int32 × St}    (s : St) (hF : F_X8_isGap (zg Z) a0  s = some R) : AW Z l iX8_isGap (Pq (rI R)) 0 0 0 [(0, .int a0)] [] s := by
  unfold F_X8_isGap at hF
  refine a_iload_n dX8_isGap_0 0 rfl rfl ?_
  refine a_bipush (v := (32 : Int32)) dX8_isGap_1 (by decide) ?_
  refine a_icmp_eq 12 dX8_isGap_3 (by decide) (fun q1 => ?_) (fun q1 => ?_)
  · replace hF := (if_pos q1).symm.trans hF
    refine a_iconst (v := (1 : Int32)) dX8_isGap_12 (by decide) ?_
    refine a_goto 17 dX8_isGap_13 (by decide) ?_
    replace hF := Option.some.inj hF
    subst hF
    exact a_zret rfl rfl (Nat.zero_le _) (Nat.zero_le _) dX8_isGap_17 ⟨rfl, rfl⟩
  · replace hF := (if_neg q1).symm.trans hF
    refine a_iload_n dX8_isGap_6 0 rfl rfl ?_
    refine a_bipush (v := (10 : Int32)) dX8_isGap_7 (by decide) ?_
    refine a_icmp_ne 16 dX8_isGap_9 (by decide) (fun q2 => ?_) (fun q2 => ?_)
    · replace hF := (if_neg q2).symm.trans hF
      refine a_iconst (v := (0 : Int32)) dX8_isGap_16 (by decide) ?_
      replace hF := Option.some.inj hF
      subst hF
      exact a_zret rfl rfl (Nat.zero_le _) (Nat.zero_le _) dX8_isGap_17 ⟨rfl, rfl⟩
    · replace hF := (if_pos q2).symm.trans hF
      refine a_iconst (v := (1 : Int32)) dX8_isGap_12 (by decide) ?_
      refine a_goto 17 dX8_isGap_13 (by decide) ?_
      replace hF := Option.some.inj hF
      subst hF
      exact a_zret rfl rfl (Nat.zero_le _) (Nat.zero_le _) dX8_isGap_17 ⟨rfl, rfl⟩
theorem m_X8_isGap {Z : ZE} {l : Launch} (hZ : OkX Z) {a0 : Int32}  {s : St} {R : Int32 × St} (hF : F_X8_isGap (zg Z) a0 s = some R) : Sp Z l yX8_isGap iX8_isGap [.int a0] s (rI R) :=
  Sp.of (by decide) rfl (Nat.le_of_ble_eq_true rfl) (w_X8_isGap hZ  s hF)
-- X8_isLetter
set_option maxRecDepth 100000 in
set_option maxHeartbeats 4000000 in
theorem w_X8_isLetter {Z : ZE} {l : Launch} (hZ : OkX Z) {a0 : Int32}  {R : Int32 × St}    (s : St) (hF : F_X8_isLetter (zg Z) a0  s = some R) : AW Z l iX8_isLetter (Pq (rI R)) 0 0 0 [(0, .int a0)] [] s := by
  unfold F_X8_isLetter at hF
  refine a_iload_n dX8_isLetter_0 0 rfl rfl ?_
  refine a_bipush (v := (97 : Int32)) dX8_isLetter_1 (by decide) ?_
  refine a_icmp_lt 16 dX8_isLetter_3 (by decide) (fun q1 => ?_) (fun q1 => ?_)
  · replace hF := (if_pos q1).symm.trans hF
    refine a_iconst (v := (0 : Int32)) dX8_isLetter_16 (by decide) ?_
    replace hF := Option.some.inj hF
    subst hF
    exact a_zret rfl rfl (Nat.zero_le _) (Nat.zero_le _) dX8_isLetter_17 ⟨rfl, rfl⟩
  · replace hF := (if_neg q1).symm.trans hF
    refine a_iload_n dX8_isLetter_6 0 rfl rfl ?_
    refine a_bipush (v := (122 : Int32)) dX8_isLetter_7 (by decide) ?_
    refine a_icmp_gt 16 dX8_isLetter_9 (by decide) (fun q2 => ?_) (fun q2 => ?_)
    · replace hF := (if_pos q2).symm.trans hF
      refine a_iconst (v := (0 : Int32)) dX8_isLetter_16 (by decide) ?_
      replace hF := Option.some.inj hF
      subst hF
      exact a_zret rfl rfl (Nat.zero_le _) (Nat.zero_le _) dX8_isLetter_17 ⟨rfl, rfl⟩
    · replace hF := (if_neg q2).symm.trans hF
      refine a_iconst (v := (1 : Int32)) dX8_isLetter_12 (by decide) ?_
      refine a_goto 17 dX8_isLetter_13 (by decide) ?_
      replace hF := Option.some.inj hF
      subst hF
      exact a_zret rfl rfl (Nat.zero_le _) (Nat.zero_le _) dX8_isLetter_17 ⟨rfl, rfl⟩
theorem m_X8_isLetter {Z : ZE} {l : Launch} (hZ : OkX Z) {a0 : Int32}  {s : St} {R : Int32 × St} (hF : F_X8_isLetter (zg Z) a0 s = some R) : Sp Z l yX8_isLetter iX8_isLetter [.int a0] s (rI R) :=
  Sp.of (by decide) rfl (Nat.le_of_ble_eq_true rfl) (w_X8_isLetter hZ  s hF)
-- X8_takeName
set_option maxRecDepth 100000 in
set_option maxHeartbeats 4000000 in
theorem w_X8_takeName_39 {Z : ZE} {l : Launch} (hZ : OkX Z)   {R : Unit × St}    (s : St) (hF : F_X8_takeName_39 (zg Z)   s = some R) : AW Z l iX8_takeName (Pq (rU R)) 0 0 39 [(0, .ref (za Z 23 0))] [] s := by
  unfold F_X8_takeName_39 at hF
  refine a_aload_n dX8_takeName_39 0 rfl rfl ?_
  refine a_iconst (v := (1 : Int32)) dX8_takeName_40 (by decide) ?_
  refine a_put hZ.1 (hZ.2 23 0 (by decide) Nat.one_pos) fl_X8_31 rfl rfl rfl dX8_takeName_41 ?_
  replace hF := Option.some.inj hF
  subst hF
  exact a_vret rfl (Nat.zero_le _) (Nat.zero_le _) dX8_takeName_44 ⟨rfl, rfl⟩
set_option maxRecDepth 100000 in
set_option maxHeartbeats 4000000 in
theorem w_X8_takeName_0 {Z : ZE} {l : Launch} (hZ : OkX Z)   {R : Unit × St} (h39_ : St → Option (Unit × St)) (w39_ : ∀   (s : St), h39_  s = some R → AW Z l iX8_takeName (Pq (rU R)) 0 0 39 [(0, .ref (za Z 23 0))] [] s) : ∀ (n_ : Nat)   (s : St), F_X8_takeName_0 (zg Z)  h39_ n_  s = some R → AW Z l iX8_takeName (Pq (rU R)) 0 0 0 [(0, .ref (za Z 23 0))] [] s := by
  intro n_
  induction n_ with
  | zero =>
    intro  s hF
    exact absurd hF (by rw [F_X8_takeName_0]; exact fun q => by cases q)
  | succ n_ w0_ =>
    intro  s hF
    rw [F_X8_takeName_0] at hF
    refine a_aload_n dX8_takeName_0 0 rfl rfl ?_
    refine a_getI hZ.1 (s 23 0 6) (hZ.2 23 0 (by decide) Nat.one_pos) fl_X8_25 rfl rfl dX8_takeName_1 ?_
    refine a_aload_n dX8_takeName_4 0 rfl rfl ?_
    refine a_getI hZ.1 (s 23 0 1) (hZ.2 23 0 (by decide) Nat.one_pos) fl_X8_15 rfl rfl dX8_takeName_5 ?_
    refine a_icmp_ge 39 dX8_takeName_8 (by decide) (fun q1 => ?_) (fun q1 => ?_)
    · replace hF := (if_pos q1).symm.trans hF
      exact w39_   _ hF
    · replace hF := (if_neg q1).symm.trans hF
      refine a_aload_n dX8_takeName_11 0 rfl rfl ?_
      refine a_getR hZ.1 (hZ.2 23 0 (by decide) Nat.one_pos) fl_X8_11 rfl 0 rfl dX8_takeName_12 ?_
      refine a_aload_n dX8_takeName_15 0 rfl rfl ?_
      refine a_getI hZ.1 (s 23 0 6) (hZ.2 23 0 (by decide) Nat.one_pos) fl_X8_25 rfl rfl dX8_takeName_16 ?_
      obtain ⟨p2, hF⟩ := gd_some hF
      refine a_iald hZ.1 (s 24 0 (s 23 0 6).toNatClampNeg) (hZ.2 24 0 (by decide) Nat.one_pos) rfl rfl (inb_vp p2) rfl dX8_takeName_19 ?_
      obtain ⟨r20, s20, e20, hF⟩ := bd_some hF
      refine a_invS hZ.1 (As := [.int (s 24 0 (s 23 0 6).toNatClampNeg)]) (rest := []) lk_X8_104 ⟨⟨by decide, by decide⟩, by decide, by decide⟩ rfl (Nat.le_of_ble_eq_true rfl) dX8_takeName_20 (m_X8_isLetter hZ  e20) ?_
      show AW Z l iX8_takeName (Pq (rU R)) 0 0 23 [(0, .ref (za Z 23 0))] [.int r20] s20
      refine a_if_eq 39 dX8_takeName_23 (by decide) (fun q3 => ?_) (fun q3 => ?_)
      · replace hF := (if_pos q3).symm.trans hF
        exact w39_   _ hF
      · replace hF := (if_neg q3).symm.trans hF
        refine a_aload_n dX8_takeName_26 0 rfl rfl ?_
        refine a_dup dX8_takeName_27 rfl ?_
        refine a_getI hZ.1 (s20 23 0 6) (hZ.2 23 0 (by decide) Nat.one_pos) fl_X8_25 rfl rfl dX8_takeName_28 ?_
        refine a_iconst (v := (1 : Int32)) dX8_takeName_31 (by decide) ?_
        refine a_iadd dX8_takeName_32 ?_
        refine a_put hZ.1 (hZ.2 23 0 (by decide) Nat.one_pos) fl_X8_25 rfl rfl rfl dX8_takeName_33 ?_
        refine a_goto 0 dX8_takeName_36 (by decide) ?_
        exact w0_   _ hF
set_option maxRecDepth 100000 in
set_option maxHeartbeats 4000000 in
theorem w_X8_takeName {Z : ZE} {l : Launch} (hZ : OkX Z)   {R : Unit × St}    (s : St) (hF : F_X8_takeName (zg Z)   s = some R) : AW Z l iX8_takeName (Pq (rU R)) 0 0 0 [(0, .ref (za Z 23 0))] [] s := by
  unfold F_X8_takeName at hF
  exact w_X8_takeName_0 (l := l) hZ  (F_X8_takeName_39 (zg Z)  ) (w_X8_takeName_39 (l := l) hZ  ) fu   _ hF
theorem m_X8_takeName {Z : ZE} {l : Launch} (hZ : OkX Z)   {s : St} {R : Unit × St} (hF : F_X8_takeName (zg Z)  s = some R) : Sp Z l yX8_takeName iX8_takeName [.ref (za Z 23 0)] s (rU R) :=
  Sp.of (by decide) rfl (Nat.le_of_ble_eq_true rfl) (w_X8_takeName hZ  s hF)
