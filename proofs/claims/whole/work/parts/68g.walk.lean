-- X11_house
set_option maxRecDepth 100000 in
set_option maxHeartbeats 4000000 in
theorem w_X11_house {Z : ZE} {l : Launch} (hZ : OkM Z) {a1 : Int32} {a2 : Int32}  {R : Int32 × St}    (s : St) (hF : F_X11_house (zg Z) a1 a2  s = some R) : AW Z l iX11_house (Pq (rI R)) 0 0 0 [(0, .ref (za Z 60 0)), (1, .int a1), (2, .int a2)] [] s := by
  unfold F_X11_house at hF
  refine a_aload_n dX11_house_0 0 rfl rfl ?_
  refine a_iconst (v := (0 : Int32)) dX11_house_1 (by decide) ?_
  refine a_put hZ.1 (hZ.2 60 0 (by decide) (by decide) Nat.one_pos) fl_X11_1 rfl rfl rfl dX11_house_2 ?_
  refine a_iload_n dX11_house_5 1 rfl rfl ?_
  refine a_i2l dX11_house_6 ?_
  refine a_lconst (v := (0 : Int64)) dX11_house_7 (by decide) ?_
  refine a_aload_n dX11_house_8 0 rfl rfl ?_
  refine a_getI hZ.1 (s 60 0 42) (hZ.2 60 0 (by decide) (by decide) Nat.one_pos) fl_X11_202 rfl (by simp [up]) dX11_house_9 ?_
  refine a_iconst (v := (1 : Int32)) dX11_house_12 (by decide) ?_
  refine a_isub dX11_house_13 ?_
  refine a_i2l dX11_house_14 ?_
  obtain ⟨r15, s15, e15, hF⟩ := bd_some hF
  refine a_invS hZ.1 (As := [.long a1.toInt64, .long (0 : Int64), .long ((s 60 0 42) - (1 : Int32)).toInt64]) (rest := []) lk_X11_126 ⟨⟨by decide, by decide⟩, by decide, by decide⟩ rfl (Nat.le_of_ble_eq_true rfl) dX11_house_15 (m_X11_in hZ  e15) ?_
  show AW Z l iX11_house (Pq (rI R)) 0 0 18 [(0, .ref (za Z 60 0)), (1, .int a1), (2, .int a2)] [.int r15] s15
  refine a_if_eq 33 dX11_house_18 (by decide) (fun q1 => ?_) (fun q1 => ?_)
  · replace hF := (if_pos q1).symm.trans hF
    refine a_ldc (v := (-1000001)) kw_1136 dX11_house_33 ?_
    refine a_goto 49 dX11_house_35 (by decide) ?_
    replace hF := Option.some.inj hF
    subst hF
    exact a_iret rfl (Nat.zero_le _) (Nat.zero_le _) dX11_house_49 ⟨rfl, rfl⟩
  · replace hF := (if_neg q1).symm.trans hF
    refine a_iload_n dX11_house_21 2 rfl rfl ?_
    refine a_i2l dX11_house_22 ?_
    refine a_lconst (v := (0 : Int64)) dX11_house_23 (by decide) ?_
    refine a_ldc2 (v := (10 : Int64)) kw_1315 dX11_house_24 ?_
    obtain ⟨r27, s27, e27, hF⟩ := bd_some hF
    refine a_invS hZ.1 (As := [.long a2.toInt64, .long (0 : Int64), .long (10 : Int64)]) (rest := []) lk_X11_126 ⟨⟨by decide, by decide⟩, by decide, by decide⟩ rfl (Nat.le_of_ble_eq_true rfl) dX11_house_27 (m_X11_in hZ  e27) ?_
    show AW Z l iX11_house (Pq (rI R)) 0 0 30 [(0, .ref (za Z 60 0)), (1, .int a1), (2, .int a2)] [.int r27] s27
    refine a_if_ne 38 dX11_house_30 (by decide) (fun q2 => ?_) (fun q2 => ?_)
    · replace hF := (if_neg q2).symm.trans hF
      refine a_aload_n dX11_house_38 0 rfl rfl ?_
      refine a_getR hZ.1 (hZ.2 60 0 (by decide) (by decide) Nat.one_pos) fl_X11_91 rfl 0 rfl dX11_house_39 ?_
      refine a_bipush (v := (11 : Int32)) dX11_house_42 (by decide) ?_
      refine a_iload_n dX11_house_44 1 rfl rfl ?_
      refine a_imul dX11_house_45 ?_
      refine a_iload_n dX11_house_46 2 rfl rfl ?_
      refine a_iadd dX11_house_47 ?_
      obtain ⟨p3, hF⟩ := gd_some hF
      refine a_iald hZ.1 (s27 84 0 (((11 : Int32) * a1) + a2).toNatClampNeg) (hZ.2 84 0 (by decide) (by decide) Nat.one_pos) rfl rfl (inb_vp p3) rfl dX11_house_48 ?_
      replace hF := Option.some.inj hF
      subst hF
      exact a_iret rfl (Nat.zero_le _) (Nat.zero_le _) dX11_house_49 ⟨rfl, rfl⟩
    · replace hF := (if_pos q2).symm.trans hF
      refine a_ldc (v := (-1000001)) kw_1136 dX11_house_33 ?_
      refine a_goto 49 dX11_house_35 (by decide) ?_
      replace hF := Option.some.inj hF
      subst hF
      exact a_iret rfl (Nat.zero_le _) (Nat.zero_le _) dX11_house_49 ⟨rfl, rfl⟩
theorem m_X11_house {Z : ZE} {l : Launch} (hZ : OkM Z) {a1 : Int32} {a2 : Int32}  {s : St} {R : Int32 × St} (hF : F_X11_house (zg Z) a1 a2 s = some R) : Sp Z l yX11_house iX11_house [.ref (za Z 60 0), .int a1, .int a2] s (rI R) :=
  Sp.of (by decide) rfl (Nat.le_of_ble_eq_true rfl) (w_X11_house hZ  s hF)
-- X11_isFigure
set_option maxRecDepth 100000 in
set_option maxHeartbeats 4000000 in
theorem w_X11_isFigure {Z : ZE} {l : Launch} (hZ : OkM Z) {a0 : Int32}  {R : Int32 × St}    (s : St) (hF : F_X11_isFigure (zg Z) a0  s = some R) : AW Z l iX11_isFigure (Pq (rI R)) 0 0 0 [(0, .int a0)] [] s := by
  unfold F_X11_isFigure at hF
  refine a_iload_n dX11_isFigure_0 0 rfl rfl ?_
  refine a_bipush (v := (48 : Int32)) dX11_isFigure_1 (by decide) ?_
  refine a_icmp_lt 16 dX11_isFigure_3 (by decide) (fun q1 => ?_) (fun q1 => ?_)
  · replace hF := (if_pos q1).symm.trans hF
    refine a_iconst (v := (0 : Int32)) dX11_isFigure_16 (by decide) ?_
    replace hF := Option.some.inj hF
    subst hF
    exact a_zret rfl rfl (Nat.zero_le _) (Nat.zero_le _) dX11_isFigure_17 ⟨rfl, rfl⟩
  · replace hF := (if_neg q1).symm.trans hF
    refine a_iload_n dX11_isFigure_6 0 rfl rfl ?_
    refine a_bipush (v := (57 : Int32)) dX11_isFigure_7 (by decide) ?_
    refine a_icmp_gt 16 dX11_isFigure_9 (by decide) (fun q2 => ?_) (fun q2 => ?_)
    · replace hF := (if_pos q2).symm.trans hF
      refine a_iconst (v := (0 : Int32)) dX11_isFigure_16 (by decide) ?_
      replace hF := Option.some.inj hF
      subst hF
      exact a_zret rfl rfl (Nat.zero_le _) (Nat.zero_le _) dX11_isFigure_17 ⟨rfl, rfl⟩
    · replace hF := (if_neg q2).symm.trans hF
      refine a_iconst (v := (1 : Int32)) dX11_isFigure_12 (by decide) ?_
      refine a_goto 17 dX11_isFigure_13 (by decide) ?_
      replace hF := Option.some.inj hF
      subst hF
      exact a_zret rfl rfl (Nat.zero_le _) (Nat.zero_le _) dX11_isFigure_17 ⟨rfl, rfl⟩
theorem m_X11_isFigure {Z : ZE} {l : Launch} (hZ : OkM Z) {a0 : Int32}  {s : St} {R : Int32 × St} (hF : F_X11_isFigure (zg Z) a0 s = some R) : Sp Z l yX11_isFigure iX11_isFigure [.int a0] s (rI R) :=
  Sp.of (by decide) rfl (Nat.le_of_ble_eq_true rfl) (w_X11_isFigure hZ  s hF)
-- X11_isLetter
set_option maxRecDepth 100000 in
set_option maxHeartbeats 4000000 in
theorem w_X11_isLetter {Z : ZE} {l : Launch} (hZ : OkM Z) {a0 : Int32}  {R : Int32 × St}    (s : St) (hF : F_X11_isLetter (zg Z) a0  s = some R) : AW Z l iX11_isLetter (Pq (rI R)) 0 0 0 [(0, .int a0)] [] s := by
  unfold F_X11_isLetter at hF
  refine a_iload_n dX11_isLetter_0 0 rfl rfl ?_
  refine a_bipush (v := (97 : Int32)) dX11_isLetter_1 (by decide) ?_
  refine a_icmp_lt 16 dX11_isLetter_3 (by decide) (fun q1 => ?_) (fun q1 => ?_)
  · replace hF := (if_pos q1).symm.trans hF
    refine a_iconst (v := (0 : Int32)) dX11_isLetter_16 (by decide) ?_
    replace hF := Option.some.inj hF
    subst hF
    exact a_zret rfl rfl (Nat.zero_le _) (Nat.zero_le _) dX11_isLetter_17 ⟨rfl, rfl⟩
  · replace hF := (if_neg q1).symm.trans hF
    refine a_iload_n dX11_isLetter_6 0 rfl rfl ?_
    refine a_bipush (v := (122 : Int32)) dX11_isLetter_7 (by decide) ?_
    refine a_icmp_gt 16 dX11_isLetter_9 (by decide) (fun q2 => ?_) (fun q2 => ?_)
    · replace hF := (if_pos q2).symm.trans hF
      refine a_iconst (v := (0 : Int32)) dX11_isLetter_16 (by decide) ?_
      replace hF := Option.some.inj hF
      subst hF
      exact a_zret rfl rfl (Nat.zero_le _) (Nat.zero_le _) dX11_isLetter_17 ⟨rfl, rfl⟩
    · replace hF := (if_neg q2).symm.trans hF
      refine a_iconst (v := (1 : Int32)) dX11_isLetter_12 (by decide) ?_
      refine a_goto 17 dX11_isLetter_13 (by decide) ?_
      replace hF := Option.some.inj hF
      subst hF
      exact a_zret rfl rfl (Nat.zero_le _) (Nat.zero_le _) dX11_isLetter_17 ⟨rfl, rfl⟩
theorem m_X11_isLetter {Z : ZE} {l : Launch} (hZ : OkM Z) {a0 : Int32}  {s : St} {R : Int32 × St} (hF : F_X11_isLetter (zg Z) a0 s = some R) : Sp Z l yX11_isLetter iX11_isLetter [.int a0] s (rI R) :=
  Sp.of (by decide) rfl (Nat.le_of_ble_eq_true rfl) (w_X11_isLetter hZ  s hF)
-- X11_isMill
set_option maxRecDepth 100000 in
set_option maxHeartbeats 4000000 in
theorem w_X11_isMill {Z : ZE} {l : Launch} (hZ : OkM Z) {a1 : Int32}  {R : Int32 × St}    (s : St) (hF : F_X11_isMill (zg Z) a1  s = some R) : AW Z l iX11_isMill (Pq (rI R)) 0 0 0 [(0, .ref (za Z 60 0)), (1, .int a1)] [] s := by
  unfold F_X11_isMill at hF
  refine a_iload_n dX11_isMill_0 1 rfl rfl ?_
  refine a_i2l dX11_isMill_1 ?_
  refine a_lconst (v := (0 : Int64)) dX11_isMill_2 (by decide) ?_
  refine a_aload_n dX11_isMill_3 0 rfl rfl ?_
  refine a_getI hZ.1 (s 60 0 15) (hZ.2 60 0 (by decide) (by decide) Nat.one_pos) fl_X11_145 rfl rfl dX11_isMill_4 ?_
  refine a_iconst (v := (1 : Int32)) dX11_isMill_7 (by decide) ?_
  refine a_isub dX11_isMill_8 ?_
  refine a_i2l dX11_isMill_9 ?_
  obtain ⟨r10, s10, e10, hF⟩ := bd_some hF
  refine a_invS hZ.1 (As := [.long a1.toInt64, .long (0 : Int64), .long ((s 60 0 15) - (1 : Int32)).toInt64]) (rest := []) lk_X11_126 ⟨⟨by decide, by decide⟩, by decide, by decide⟩ rfl (Nat.le_of_ble_eq_true rfl) dX11_isMill_10 (m_X11_in hZ  e10) ?_
  show AW Z l iX11_isMill (Pq (rI R)) 0 0 13 [(0, .ref (za Z 60 0)), (1, .int a1)] [.int r10] s10
  obtain ⟨p1, hF⟩ := gd_some hF
  replace hF := Option.some.inj hF
  subst hF
  exact a_zret rfl (isb_n p1) (Nat.zero_le _) (Nat.zero_le _) dX11_isMill_13 ⟨rfl, rfl⟩
theorem m_X11_isMill {Z : ZE} {l : Launch} (hZ : OkM Z) {a1 : Int32}  {s : St} {R : Int32 × St} (hF : F_X11_isMill (zg Z) a1 s = some R) : Sp Z l yX11_isMill iX11_isMill [.ref (za Z 60 0), .int a1] s (rI R) :=
  Sp.of (by decide) rfl (Nat.le_of_ble_eq_true rfl) (w_X11_isMill hZ  s hF)
-- X11_isSort
set_option maxRecDepth 100000 in
set_option maxHeartbeats 4000000 in
theorem w_X11_isSort {Z : ZE} {l : Launch} (hZ : OkM Z) {a0 : Int32}  {R : Int32 × St}    (s : St) (hF : F_X11_isSort (zg Z) a0  s = some R) : AW Z l iX11_isSort (Pq (rI R)) 0 0 0 [(0, .int a0)] [] s := by
  unfold F_X11_isSort at hF
  refine a_iload_n dX11_isSort_0 0 rfl rfl ?_
  refine a_i2l dX11_isSort_1 ?_
  refine a_lconst (v := (0 : Int64)) dX11_isSort_2 (by decide) ?_
  refine a_ldc2 (v := (3 : Int64)) kw_1162 dX11_isSort_3 ?_
  obtain ⟨r6, s6, e6, hF⟩ := bd_some hF
  refine a_invS hZ.1 (As := [.long a0.toInt64, .long (0 : Int64), .long (3 : Int64)]) (rest := []) lk_X11_126 ⟨⟨by decide, by decide⟩, by decide, by decide⟩ rfl (Nat.le_of_ble_eq_true rfl) dX11_isSort_6 (m_X11_in hZ  e6) ?_
  show AW Z l iX11_isSort (Pq (rI R)) 0 0 9 [(0, .int a0)] [.int r6] s6
  obtain ⟨p1, hF⟩ := gd_some hF
  replace hF := Option.some.inj hF
  subst hF
  exact a_zret rfl (isb_n p1) (Nat.zero_le _) (Nat.zero_le _) dX11_isSort_9 ⟨rfl, rfl⟩
theorem m_X11_isSort {Z : ZE} {l : Launch} (hZ : OkM Z) {a0 : Int32}  {s : St} {R : Int32 × St} (hF : F_X11_isSort (zg Z) a0 s = some R) : Sp Z l yX11_isSort iX11_isSort [.int a0] s (rI R) :=
  Sp.of (by decide) rfl (Nat.le_of_ble_eq_true rfl) (w_X11_isSort hZ  s hF)
-- X11_kind
set_option maxRecDepth 100000 in
set_option maxHeartbeats 4000000 in
theorem w_X11_kind {Z : ZE} {l : Launch} (hZ : OkM Z) {a1 : Int32}  {R : Int32 × St}    (s : St) (hF : F_X11_kind (zg Z) a1  s = some R) : AW Z l iX11_kind (Pq (rI R)) 0 0 0 [(0, .ref (za Z 60 0)), (1, .int a1)] [] s := by
  unfold F_X11_kind at hF
  refine a_aload_n dX11_kind_0 0 rfl rfl ?_
  refine a_iconst (v := (0 : Int32)) dX11_kind_1 (by decide) ?_
  refine a_put hZ.1 (hZ.2 60 0 (by decide) (by decide) Nat.one_pos) fl_X11_1 rfl rfl rfl dX11_kind_2 ?_
  refine a_aload_n dX11_kind_5 0 rfl rfl ?_
  refine a_iload_n dX11_kind_6 1 rfl rfl ?_
  obtain ⟨r7, s7, e7, hF⟩ := bd_some hF
  refine a_invV hZ.1 (As := [.int a1]) (rest := []) (hZ.2 60 0 (by decide) (by decide) Nat.one_pos) lk_X11_329 ⟨⟨by decide, by decide⟩, by decide, by decide⟩ rfl (Nat.le_of_ble_eq_true rfl) dX11_kind_7 (m_X11_isThing hZ  e7) ?_
  show AW Z l iX11_kind (Pq (rI R)) 0 0 10 [(0, .ref (za Z 60 0)), (1, .int a1)] [.int r7] s7
  refine a_if_eq 22 dX11_kind_10 (by decide) (fun q1 => ?_) (fun q1 => ?_)
  · replace hF := (if_pos q1).symm.trans hF
    refine a_ldc (v := (-1000001)) kw_1136 dX11_kind_22 ?_
    replace hF := Option.some.inj hF
    subst hF
    exact a_iret rfl (Nat.zero_le _) (Nat.zero_le _) dX11_kind_24 ⟨rfl, rfl⟩
  · replace hF := (if_neg q1).symm.trans hF
    refine a_aload_n dX11_kind_13 0 rfl rfl ?_
    refine a_getR hZ.1 (hZ.2 60 0 (by decide) (by decide) Nat.one_pos) fl_X11_103 rfl 0 rfl dX11_kind_14 ?_
    refine a_iload_n dX11_kind_17 1 rfl rfl ?_
    obtain ⟨p2, hF⟩ := gd_some hF
    refine a_iald hZ.1 (s7 88 0 a1.toNatClampNeg) (hZ.2 88 0 (by decide) (by decide) Nat.one_pos) rfl rfl (inb_vp p2) rfl dX11_kind_18 ?_
    refine a_goto 24 dX11_kind_19 (by decide) ?_
    replace hF := Option.some.inj hF
    subst hF
    exact a_iret rfl (Nat.zero_le _) (Nat.zero_le _) dX11_kind_24 ⟨rfl, rfl⟩
theorem m_X11_kind {Z : ZE} {l : Launch} (hZ : OkM Z) {a1 : Int32}  {s : St} {R : Int32 × St} (hF : F_X11_kind (zg Z) a1 s = some R) : Sp Z l yX11_kind iX11_kind [.ref (za Z 60 0), .int a1] s (rI R) :=
  Sp.of (by decide) rfl (Nat.le_of_ble_eq_true rfl) (w_X11_kind hZ  s hF)
-- X11_known
set_option maxRecDepth 100000 in
set_option maxHeartbeats 4000000 in
theorem w_X11_known_77 {Z : ZE} {l : Launch} (hZ : OkM Z) {a1 : Int32} {a2 : Int32}  {R : Int32 × St} (h32_ : Int32 → Int32 → St → Option (Int32 × St)) (w32_ : ∀ (v3 : Int32) (v4 : Int32)  (s : St), h32_ v3 v4 s = some R → AW Z l iX11_known (Pq (rI R)) 0 0 32 [(0, .ref (za Z 60 0)), (1, .int a1), (2, .int a2), (3, .int v3), (4, .int v4)] [] s) (v4 : Int32) (x0 : Int32) (x1 : Int32)  (s : St) (hF : F_X11_known_77 (zg Z) a1 a2 h32_ v4 x0 x1 s = some R) : AW Z l iX11_known (Pq (rI R)) 0 0 77 [(0, .ref (za Z 60 0)), (1, .int a1), (2, .int a2), (4, .int v4)] [.int x1, .int x0] s := by
  unfold F_X11_known_77 at hF
  refine a_ior dX11_known_77 ?_
  refine a_istore_n [(3, .int (x0 ||| x1)), (0, .ref (za Z 60 0)), (1, .int a1), (2, .int a2), (4, .int v4)] dX11_known_78 rfl (by decide) rfl ?_
  refine a_iinc [(4, .int (v4 + 1)), (3, .int (x0 ||| x1)), (0, .ref (za Z 60 0)), (1, .int a1), (2, .int a2)] dX11_known_79 4 rfl rfl (by decide) rfl ?_
  refine a_goto 32 dX11_known_82 (by decide) ?_
  refine a_loc [(0, .ref (za Z 60 0)), (1, .int a1), (2, .int a2), (3, .int (x0 ||| x1)), (4, .int (v4 + 1))] [2, 3, 4, 1, 0] rfl ?_
  exact w32_ (x0 ||| x1) (v4 + 1)  _ hF
set_option maxRecDepth 100000 in
set_option maxHeartbeats 4000000 in
theorem w_X11_known_76 {Z : ZE} {l : Launch} (hZ : OkM Z) {a1 : Int32} {a2 : Int32}  {R : Int32 × St} (h32_ : Int32 → Int32 → St → Option (Int32 × St)) (w32_ : ∀ (v3 : Int32) (v4 : Int32)  (s : St), h32_ v3 v4 s = some R → AW Z l iX11_known (Pq (rI R)) 0 0 32 [(0, .ref (za Z 60 0)), (1, .int a1), (2, .int a2), (3, .int v3), (4, .int v4)] [] s) (v4 : Int32) (x0 : Int32)  (s : St) (hF : F_X11_known_76 (zg Z) a1 a2 h32_ v4 x0 s = some R) : AW Z l iX11_known (Pq (rI R)) 0 0 76 [(0, .ref (za Z 60 0)), (1, .int a1), (2, .int a2), (4, .int v4)] [.int x0] s := by
  unfold F_X11_known_76 at hF
  refine a_iconst (v := (0 : Int32)) dX11_known_76 (by decide) ?_
  exact w_X11_known_77 (l := l) hZ  h32_ w32_ v4 x0 (0 : Int32)  _ hF
set_option maxRecDepth 100000 in
set_option maxHeartbeats 4000000 in
theorem w_X11_known_32 {Z : ZE} {l : Launch} (hZ : OkM Z) {a1 : Int32} {a2 : Int32}  {R : Int32 × St}  : ∀ (n_ : Nat) (v3 : Int32) (v4 : Int32)  (s : St), F_X11_known_32 (zg Z) a1 a2 n_ v3 v4 s = some R → AW Z l iX11_known (Pq (rI R)) 0 0 32 [(0, .ref (za Z 60 0)), (1, .int a1), (2, .int a2), (3, .int v3), (4, .int v4)] [] s := by
  intro n_
  induction n_ with
  | zero =>
    intro v3 v4 s hF
    exact absurd hF (by rw [F_X11_known_32]; exact fun q => by cases q)
  | succ n_ w32_ =>
    intro v3 v4 s hF
    rw [F_X11_known_32] at hF
    refine a_iload dX11_known_32 4 rfl ?_
    refine a_aload_n dX11_known_34 0 rfl rfl ?_
    refine a_getI hZ.1 (s 60 0 51) (hZ.2 60 0 (by decide) (by decide) Nat.one_pos) fl_X11_334 rfl rfl dX11_known_35 ?_
    refine a_icmp_ge 85 dX11_known_38 (by decide) (fun q1 => ?_) (fun q1 => ?_)
    · replace hF := (if_pos q1).symm.trans hF
      refine a_iload_n dX11_known_85 3 rfl rfl ?_
      replace hF := Option.some.inj hF
      subst hF
      exact a_iret rfl (Nat.zero_le _) (Nat.zero_le _) dX11_known_86 ⟨rfl, rfl⟩
    · replace hF := (if_neg q1).symm.trans hF
      refine a_iload_n dX11_known_41 3 rfl rfl ?_
      refine a_aload_n dX11_known_42 0 rfl rfl ?_
      refine a_getR hZ.1 (hZ.2 60 0 (by decide) (by decide) Nat.one_pos) fl_X11_118 rfl 0 rfl dX11_known_43 ?_
      refine a_iload dX11_known_46 4 rfl ?_
      obtain ⟨p2, hF⟩ := gd_some hF
      refine a_iald hZ.1 (s 93 0 v4.toNatClampNeg) (hZ.2 93 0 (by decide) (by decide) Nat.one_pos) rfl rfl (inb_vp p2) rfl dX11_known_48 ?_
      refine a_iload_n dX11_known_49 1 rfl rfl ?_
      refine a_icmp_ne 76 dX11_known_50 (by decide) (fun q3 => ?_) (fun q3 => ?_)
      · replace hF := (if_neg q3).symm.trans hF
        refine a_loc [(0, .ref (za Z 60 0)), (1, .int a1), (2, .int a2), (4, .int v4)] [0, 1, 2, 4] rfl ?_
        exact w_X11_known_76 (l := l) hZ  (F_X11_known_32 (zg Z) a1 a2 n_) w32_ v4 v3  _ hF
      · replace hF := (if_pos q3).symm.trans hF
        refine a_aload_n dX11_known_53 0 rfl rfl ?_
        refine a_getR hZ.1 (hZ.2 60 0 (by decide) (by decide) Nat.one_pos) fl_X11_115 rfl 0 rfl dX11_known_54 ?_
        refine a_iload dX11_known_57 4 rfl ?_
        obtain ⟨p4, hF⟩ := gd_some hF
        refine a_iald hZ.1 (s 92 0 v4.toNatClampNeg) (hZ.2 92 0 (by decide) (by decide) Nat.one_pos) rfl rfl (inb_vp p4) rfl dX11_known_59 ?_
        refine a_iload_n dX11_known_60 2 rfl rfl ?_
        refine a_icmp_gt 76 dX11_known_61 (by decide) (fun q5 => ?_) (fun q5 => ?_)
        · replace hF := (if_pos q5).symm.trans hF
          refine a_loc [(0, .ref (za Z 60 0)), (1, .int a1), (2, .int a2), (4, .int v4)] [0, 1, 2, 4] rfl ?_
          exact w_X11_known_76 (l := l) hZ  (F_X11_known_32 (zg Z) a1 a2 n_) w32_ v4 v3  _ hF
        · replace hF := (if_neg q5).symm.trans hF
          refine a_iconst (v := (1 : Int32)) dX11_known_64 (by decide) ?_
          refine a_aload_n dX11_known_65 0 rfl rfl ?_
          refine a_getR hZ.1 (hZ.2 60 0 (by decide) (by decide) Nat.one_pos) fl_X11_112 rfl 0 rfl dX11_known_66 ?_
          refine a_iload dX11_known_69 4 rfl ?_
          obtain ⟨p6, hF⟩ := gd_some hF
          refine a_iald hZ.1 (s 91 0 v4.toNatClampNeg) (hZ.2 91 0 (by decide) (by decide) Nat.one_pos) rfl rfl (inb_vp p6) rfl dX11_known_71 ?_
          refine a_ishl dX11_known_72 ?_
          refine a_goto 77 dX11_known_73 (by decide) ?_
          refine a_loc [(0, .ref (za Z 60 0)), (1, .int a1), (2, .int a2), (4, .int v4)] [0, 1, 2, 4] rfl ?_
          exact w_X11_known_77 (l := l) hZ  (F_X11_known_32 (zg Z) a1 a2 n_) w32_ v4 v3 ((1 : Int32) <<< ((s 91 0 v4.toNatClampNeg) &&& 31))  _ hF
set_option maxRecDepth 100000 in
set_option maxHeartbeats 4000000 in
theorem w_X11_known {Z : ZE} {l : Launch} (hZ : OkM Z) {a1 : Int32} {a2 : Int32}  {R : Int32 × St}    (s : St) (hF : F_X11_known (zg Z) a1 a2  s = some R) : AW Z l iX11_known (Pq (rI R)) 0 0 0 [(0, .ref (za Z 60 0)), (1, .int a1), (2, .int a2)] [] s := by
  unfold F_X11_known at hF
  refine a_aload_n dX11_known_0 0 rfl rfl ?_
  refine a_iconst (v := (0 : Int32)) dX11_known_1 (by decide) ?_
  refine a_put hZ.1 (hZ.2 60 0 (by decide) (by decide) Nat.one_pos) fl_X11_1 rfl rfl rfl dX11_known_2 ?_
  refine a_iload_n dX11_known_5 1 rfl rfl ?_
  refine a_i2l dX11_known_6 ?_
  refine a_lconst (v := (0 : Int64)) dX11_known_7 (by decide) ?_
  refine a_ldc2 (v := (3 : Int64)) kw_1162 dX11_known_8 ?_
  obtain ⟨r11, s11, e11, hF⟩ := bd_some hF
  refine a_invS hZ.1 (As := [.long a1.toInt64, .long (0 : Int64), .long (3 : Int64)]) (rest := []) lk_X11_126 ⟨⟨by decide, by decide⟩, by decide, by decide⟩ rfl (Nat.le_of_ble_eq_true rfl) dX11_known_11 (m_X11_in hZ  e11) ?_
  show AW Z l iX11_known (Pq (rI R)) 0 0 14 [(0, .ref (za Z 60 0)), (1, .int a1), (2, .int a2)] [.int r11] s11
  refine a_if_eq 24 dX11_known_14 (by decide) (fun q1 => ?_) (fun q1 => ?_)
  · replace hF := (if_pos q1).symm.trans hF
    refine a_ldc (v := (-1000001)) kw_1136 dX11_known_24 ?_
    replace hF := Option.some.inj hF
    subst hF
    exact a_iret rfl (Nat.zero_le _) (Nat.zero_le _) dX11_known_26 ⟨rfl, rfl⟩
  · replace hF := (if_neg q1).symm.trans hF
    refine a_iload_n dX11_known_17 2 rfl rfl ?_
    obtain ⟨r18, s18, e18, hF⟩ := bd_some hF
    refine a_invS hZ.1 (As := [.int a2]) (rest := []) lk_X11_164 ⟨⟨by decide, by decide⟩, by decide, by decide⟩ rfl (Nat.le_of_ble_eq_true rfl) dX11_known_18 (m_X11_isWeek hZ  e18) ?_
    show AW Z l iX11_known (Pq (rI R)) 0 0 21 [(0, .ref (za Z 60 0)), (1, .int a1), (2, .int a2)] [.int r18] s18
    refine a_if_ne 27 dX11_known_21 (by decide) (fun q2 => ?_) (fun q2 => ?_)
    · replace hF := (if_neg q2).symm.trans hF
      refine a_iconst (v := (0 : Int32)) dX11_known_27 (by decide) ?_
      refine a_istore_n [(3, .int (0 : Int32)), (0, .ref (za Z 60 0)), (1, .int a1), (2, .int a2)] dX11_known_28 rfl (by decide) rfl ?_
      refine a_iconst (v := (0 : Int32)) dX11_known_29 (by decide) ?_
      refine a_istore [(4, .int (0 : Int32)), (3, .int (0 : Int32)), (0, .ref (za Z 60 0)), (1, .int a1), (2, .int a2)] dX11_known_30 (by decide) rfl ?_
      refine a_loc [(0, .ref (za Z 60 0)), (1, .int a1), (2, .int a2), (3, .int (0 : Int32)), (4, .int (0 : Int32))] [2, 3, 4, 1, 0] rfl ?_
      exact w_X11_known_32 (l := l) hZ   fu (0 : Int32) (0 : Int32)  _ hF
    · replace hF := (if_pos q2).symm.trans hF
      refine a_ldc (v := (-1000001)) kw_1136 dX11_known_24 ?_
      replace hF := Option.some.inj hF
      subst hF
      exact a_iret rfl (Nat.zero_le _) (Nat.zero_le _) dX11_known_26 ⟨rfl, rfl⟩
theorem m_X11_known {Z : ZE} {l : Launch} (hZ : OkM Z) {a1 : Int32} {a2 : Int32}  {s : St} {R : Int32 × St} (hF : F_X11_known (zg Z) a1 a2 s = some R) : Sp Z l yX11_known iX11_known [.ref (za Z 60 0), .int a1, .int a2] s (rI R) :=
  Sp.of (by decide) rfl (Nat.le_of_ble_eq_true rfl) (w_X11_known hZ  s hF)
-- X11_next
set_option maxRecDepth 100000 in
set_option maxHeartbeats 4000000 in
theorem w_X11_next_196 {Z : ZE} {l : Launch} (hZ : OkM Z)   {R : Unit × St}    (s : St) (hF : F_X11_next_196 (zg Z)   s = some R) : AW Z l iX11_next (Pq (rU R)) 0 0 196 [(0, .ref (za Z 60 0))] [] s := by
  unfold F_X11_next_196 at hF
  refine a_aload_n dX11_next_196 0 rfl rfl ?_
  refine a_aload_n dX11_next_197 0 rfl rfl ?_
  refine a_getI hZ.1 (s 60 0 34) (hZ.2 60 0 (by decide) (by decide) Nat.one_pos) fl_X11_225 rfl rfl dX11_next_198 ?_
  refine a_put hZ.1 (hZ.2 60 0 (by decide) (by decide) Nat.one_pos) fl_X11_243 rfl rfl rfl dX11_next_201 ?_
  replace hF := Option.some.inj hF
  subst hF
  exact a_vret rfl (Nat.zero_le _) (Nat.zero_le _) dX11_next_204 ⟨rfl, rfl⟩
set_option maxRecDepth 100000 in
set_option maxHeartbeats 4000000 in
theorem w_X11_next_193 {Z : ZE} {l : Launch} (hZ : OkM Z)   {R : Unit × St}  (x1 : Int32)  (s : St) (hF : F_X11_next_193 (zg Z)  x1 s = some R) : AW Z l iX11_next (Pq (rU R)) 0 0 193 [(0, .ref (za Z 60 0))] [.int x1, .ref (za Z 60 0)] s := by
  unfold F_X11_next_193 at hF
  refine a_put hZ.1 (hZ.2 60 0 (by decide) (by decide) Nat.one_pos) fl_X11_234 rfl rfl rfl dX11_next_193 ?_
  exact w_X11_next_196 (l := l) hZ     _ hF
set_option maxRecDepth 100000 in
set_option maxHeartbeats 4000000 in
theorem w_X11_next_165 {Z : ZE} {l : Launch} (hZ : OkM Z)   {R : Unit × St}  (x1 : Int32)  (s : St) (hF : F_X11_next_165 (zg Z)  x1 s = some R) : AW Z l iX11_next (Pq (rU R)) 0 0 165 [(0, .ref (za Z 60 0))] [.int x1, .ref (za Z 60 0)] s := by
  unfold F_X11_next_165 at hF
  refine a_put hZ.1 (hZ.2 60 0 (by decide) (by decide) Nat.one_pos) fl_X11_234 rfl rfl rfl dX11_next_165 ?_
  refine a_goto 196 dX11_next_168 (by decide) ?_
  exact w_X11_next_196 (l := l) hZ     _ hF
set_option maxRecDepth 100000 in
set_option maxHeartbeats 4000000 in
theorem w_X11_next_146 {Z : ZE} {l : Launch} (hZ : OkM Z)   {R : Unit × St}    (s : St) (hF : F_X11_next_146 (zg Z)   s = some R) : AW Z l iX11_next (Pq (rU R)) 0 0 146 [(0, .ref (za Z 60 0))] [] s := by
  unfold F_X11_next_146 at hF
  refine a_aload_n dX11_next_146 0 rfl rfl ?_
  refine a_aload_n dX11_next_147 0 rfl rfl ?_
  refine a_getI hZ.1 (s 60 0 34) (hZ.2 60 0 (by decide) (by decide) Nat.one_pos) fl_X11_225 rfl rfl dX11_next_148 ?_
  refine a_aload_n dX11_next_151 0 rfl rfl ?_
  refine a_getI hZ.1 (s 60 0 36) (hZ.2 60 0 (by decide) (by decide) Nat.one_pos) fl_X11_231 rfl rfl dX11_next_152 ?_
  refine a_isub dX11_next_155 ?_
  refine a_iconst (v := (4 : Int32)) dX11_next_156 (by decide) ?_
  refine a_icmp_le 164 dX11_next_157 (by decide) (fun q1 => ?_) (fun q1 => ?_)
  · replace hF := (if_pos q1).symm.trans hF
    refine a_iconst (v := (3 : Int32)) dX11_next_164 (by decide) ?_
    exact w_X11_next_165 (l := l) hZ   (3 : Int32)  _ hF
  · replace hF := (if_neg q1).symm.trans hF
    refine a_iconst (v := (0 : Int32)) dX11_next_160 (by decide) ?_
    refine a_goto 165 dX11_next_161 (by decide) ?_
    exact w_X11_next_165 (l := l) hZ   (0 : Int32)  _ hF
set_option maxRecDepth 100000 in
set_option maxHeartbeats 4000000 in
theorem w_X11_next_119 {Z : ZE} {l : Launch} (hZ : OkM Z)   {R : Unit × St} (h146_ : St → Option (Unit × St)) (w146_ : ∀   (s : St), h146_  s = some R → AW Z l iX11_next (Pq (rU R)) 0 0 146 [(0, .ref (za Z 60 0))] [] s) : ∀ (n_ : Nat)   (s : St), F_X11_next_119 (zg Z)  h146_ n_  s = some R → AW Z l iX11_next (Pq (rU R)) 0 0 119 [(0, .ref (za Z 60 0))] [] s := by
  intro n_
  induction n_ with
  | zero =>
    intro  s hF
    exact absurd hF (by rw [F_X11_next_119]; exact fun q => by cases q)
  | succ n_ w119_ =>
    intro  s hF
    rw [F_X11_next_119] at hF
    refine a_aload_n dX11_next_119 0 rfl rfl ?_
    refine a_aload_n dX11_next_120 0 rfl rfl ?_
    refine a_getI hZ.1 (s 60 0 34) (hZ.2 60 0 (by decide) (by decide) Nat.one_pos) fl_X11_225 rfl rfl dX11_next_121 ?_
    obtain ⟨r124, s124, e124, hF⟩ := bd_some hF
    refine a_invV hZ.1 (As := [.int (s 60 0 34)]) (rest := []) (hZ.2 60 0 (by decide) (by decide) Nat.one_pos) lk_X11_228 ⟨⟨by decide, by decide⟩, by decide, by decide⟩ rfl (Nat.le_of_ble_eq_true rfl) dX11_next_124 (m_X11_byteAt hZ  e124) ?_
    show AW Z l iX11_next (Pq (rU R)) 0 0 127 [(0, .ref (za Z 60 0))] [.int r124] s124
    obtain ⟨r127, s127, e127, hF⟩ := bd_some hF
    refine a_invS hZ.1 (As := [.int r124]) (rest := []) lk_X11_240 ⟨⟨by decide, by decide⟩, by decide, by decide⟩ rfl (Nat.le_of_ble_eq_true rfl) dX11_next_127 (m_X11_isFigure hZ  e127) ?_
    show AW Z l iX11_next (Pq (rU R)) 0 0 130 [(0, .ref (za Z 60 0))] [.int r127] s127
    refine a_if_eq 146 dX11_next_130 (by decide) (fun q1 => ?_) (fun q1 => ?_)
    · replace hF := (if_pos q1).symm.trans hF
      exact w146_   _ hF
    · replace hF := (if_neg q1).symm.trans hF
      refine a_aload_n dX11_next_133 0 rfl rfl ?_
      refine a_dup dX11_next_134 rfl ?_
      refine a_getI hZ.1 (s127 60 0 34) (hZ.2 60 0 (by decide) (by decide) Nat.one_pos) fl_X11_225 rfl rfl dX11_next_135 ?_
      refine a_iconst (v := (1 : Int32)) dX11_next_138 (by decide) ?_
      refine a_iadd dX11_next_139 ?_
      refine a_put hZ.1 (hZ.2 60 0 (by decide) (by decide) Nat.one_pos) fl_X11_225 rfl rfl rfl dX11_next_140 ?_
      refine a_goto 119 dX11_next_143 (by decide) ?_
      exact w119_   _ hF
set_option maxRecDepth 100000 in
set_option maxHeartbeats 4000000 in
theorem w_X11_next_104 {Z : ZE} {l : Launch} (hZ : OkM Z)   {R : Unit × St}    (s : St) (hF : F_X11_next_104 (zg Z)   s = some R) : AW Z l iX11_next (Pq (rU R)) 0 0 104 [(0, .ref (za Z 60 0))] [] s := by
  unfold F_X11_next_104 at hF
  refine a_aload_n dX11_next_104 0 rfl rfl ?_
  refine a_iconst (v := (2 : Int32)) dX11_next_105 (by decide) ?_
  refine a_put hZ.1 (hZ.2 60 0 (by decide) (by decide) Nat.one_pos) fl_X11_234 rfl rfl rfl dX11_next_106 ?_
  refine a_goto 196 dX11_next_109 (by decide) ?_
  exact w_X11_next_196 (l := l) hZ     _ hF
set_option maxRecDepth 100000 in
set_option maxHeartbeats 4000000 in
theorem w_X11_next_77 {Z : ZE} {l : Launch} (hZ : OkM Z)   {R : Unit × St} (h104_ : St → Option (Unit × St)) (w104_ : ∀   (s : St), h104_  s = some R → AW Z l iX11_next (Pq (rU R)) 0 0 104 [(0, .ref (za Z 60 0))] [] s) : ∀ (n_ : Nat)   (s : St), F_X11_next_77 (zg Z)  h104_ n_  s = some R → AW Z l iX11_next (Pq (rU R)) 0 0 77 [(0, .ref (za Z 60 0))] [] s := by
  intro n_
  induction n_ with
  | zero =>
    intro  s hF
    exact absurd hF (by rw [F_X11_next_77]; exact fun q => by cases q)
  | succ n_ w77_ =>
    intro  s hF
    rw [F_X11_next_77] at hF
    refine a_aload_n dX11_next_77 0 rfl rfl ?_
    refine a_aload_n dX11_next_78 0 rfl rfl ?_
    refine a_getI hZ.1 (s 60 0 34) (hZ.2 60 0 (by decide) (by decide) Nat.one_pos) fl_X11_225 rfl rfl dX11_next_79 ?_
    obtain ⟨r82, s82, e82, hF⟩ := bd_some hF
    refine a_invV hZ.1 (As := [.int (s 60 0 34)]) (rest := []) (hZ.2 60 0 (by decide) (by decide) Nat.one_pos) lk_X11_228 ⟨⟨by decide, by decide⟩, by decide, by decide⟩ rfl (Nat.le_of_ble_eq_true rfl) dX11_next_82 (m_X11_byteAt hZ  e82) ?_
    show AW Z l iX11_next (Pq (rU R)) 0 0 85 [(0, .ref (za Z 60 0))] [.int r82] s82
    obtain ⟨r85, s85, e85, hF⟩ := bd_some hF
    refine a_invS hZ.1 (As := [.int r82]) (rest := []) lk_X11_237 ⟨⟨by decide, by decide⟩, by decide, by decide⟩ rfl (Nat.le_of_ble_eq_true rfl) dX11_next_85 (m_X11_isLetter hZ  e85) ?_
    show AW Z l iX11_next (Pq (rU R)) 0 0 88 [(0, .ref (za Z 60 0))] [.int r85] s85
    refine a_if_eq 104 dX11_next_88 (by decide) (fun q1 => ?_) (fun q1 => ?_)
    · replace hF := (if_pos q1).symm.trans hF
      exact w104_   _ hF
    · replace hF := (if_neg q1).symm.trans hF
      refine a_aload_n dX11_next_91 0 rfl rfl ?_
      refine a_dup dX11_next_92 rfl ?_
      refine a_getI hZ.1 (s85 60 0 34) (hZ.2 60 0 (by decide) (by decide) Nat.one_pos) fl_X11_225 rfl rfl dX11_next_93 ?_
      refine a_iconst (v := (1 : Int32)) dX11_next_96 (by decide) ?_
      refine a_iadd dX11_next_97 ?_
      refine a_put hZ.1 (hZ.2 60 0 (by decide) (by decide) Nat.one_pos) fl_X11_225 rfl rfl rfl dX11_next_98 ?_
      refine a_goto 77 dX11_next_101 (by decide) ?_
      exact w77_   _ hF
set_option maxRecDepth 100000 in
set_option maxHeartbeats 4000000 in
theorem w_X11_next_39 {Z : ZE} {l : Launch} (hZ : OkM Z)   {R : Unit × St}    (s : St) (hF : F_X11_next_39 (zg Z)   s = some R) : AW Z l iX11_next (Pq (rU R)) 0 0 39 [(0, .ref (za Z 60 0))] [] s := by
  unfold F_X11_next_39 at hF
  refine a_aload_n dX11_next_39 0 rfl rfl ?_
  refine a_aload_n dX11_next_40 0 rfl rfl ?_
  refine a_getI hZ.1 (s 60 0 34) (hZ.2 60 0 (by decide) (by decide) Nat.one_pos) fl_X11_225 rfl rfl dX11_next_41 ?_
  refine a_put hZ.1 (hZ.2 60 0 (by decide) (by decide) Nat.one_pos) fl_X11_231 rfl rfl rfl dX11_next_44 ?_
  refine a_aload_n dX11_next_47 0 rfl rfl ?_
  refine a_aload_n dX11_next_48 0 rfl rfl ?_
  refine a_getI hZ.1 (s 60 0 34) (hZ.2 60 0 (by decide) (by decide) Nat.one_pos) fl_X11_225 rfl (by simp [up]) dX11_next_49 ?_
  obtain ⟨r52, s52, e52, hF⟩ := bd_some hF
  refine a_invV hZ.1 (As := [.int (s 60 0 34)]) (rest := []) (hZ.2 60 0 (by decide) (by decide) Nat.one_pos) lk_X11_228 ⟨⟨by decide, by decide⟩, by decide, by decide⟩ rfl (Nat.le_of_ble_eq_true rfl) dX11_next_52 (m_X11_byteAt hZ  e52) ?_
  show AW Z l iX11_next (Pq (rU R)) 0 0 55 [(0, .ref (za Z 60 0))] [.int r52] s52
  refine a_istore_n [(1, .int r52), (0, .ref (za Z 60 0))] dX11_next_55 rfl (by decide) rfl ?_
  refine a_iload_n dX11_next_56 0 rfl rfl ?_
  refine a_ldc (v := (-1000000)) kw_951 dX11_next_57 ?_
  refine a_icmp_ne 70 dX11_next_59 (by decide) (fun q1 => ?_) (fun q1 => ?_)
  · replace hF := (if_neg q1).symm.trans hF
    refine a_iload_n dX11_next_70 0 rfl rfl ?_
    obtain ⟨r71, s71, e71, hF⟩ := bd_some hF
    refine a_invS hZ.1 (As := [.int r52]) (rest := []) lk_X11_237 ⟨⟨by decide, by decide⟩, by decide, by decide⟩ rfl (Nat.le_of_ble_eq_true rfl) dX11_next_71 (m_X11_isLetter hZ  e71) ?_
    show AW Z l iX11_next (Pq (rU R)) 0 0 74 [(1, .int r52), (0, .ref (za Z 60 0))] [.int r71] s71
    refine a_if_eq 112 dX11_next_74 (by decide) (fun q2 => ?_) (fun q2 => ?_)
    · replace hF := (if_pos q2).symm.trans hF
      refine a_iload_n dX11_next_112 0 rfl rfl ?_
      obtain ⟨r113, s113, e113, hF⟩ := bd_some hF
      refine a_invS hZ.1 (As := [.int r52]) (rest := []) lk_X11_240 ⟨⟨by decide, by decide⟩, by decide, by decide⟩ rfl (Nat.le_of_ble_eq_true rfl) dX11_next_113 (m_X11_isFigure hZ  e113) ?_
      show AW Z l iX11_next (Pq (rU R)) 0 0 116 [(1, .int r52), (0, .ref (za Z 60 0))] [.int r113] s113
      refine a_if_eq 171 dX11_next_116 (by decide) (fun q3 => ?_) (fun q3 => ?_)
      · replace hF := (if_pos q3).symm.trans hF
        refine a_aload_n dX11_next_171 1 rfl rfl ?_
        refine a_dup dX11_next_172 rfl ?_
        refine a_getI hZ.1 (s113 60 0 34) (hZ.2 60 0 (by decide) (by decide) Nat.one_pos) fl_X11_225 rfl rfl dX11_next_173 ?_
        refine a_iconst (v := (1 : Int32)) dX11_next_176 (by decide) ?_
        refine a_iadd dX11_next_177 ?_
        refine a_put hZ.1 (hZ.2 60 0 (by decide) (by decide) Nat.one_pos) fl_X11_225 rfl rfl rfl dX11_next_178 ?_
        refine a_aload_n dX11_next_181 1 rfl rfl ?_
        refine a_iload_n dX11_next_182 0 rfl rfl ?_
        refine a_bipush (v := (59 : Int32)) dX11_next_183 (by decide) ?_
        refine a_icmp_ne 192 dX11_next_185 (by decide) (fun q4 => ?_) (fun q4 => ?_)
        · replace hF := (if_neg q4).symm.trans hF
          refine a_iconst (v := (0 : Int32)) dX11_next_192 (by decide) ?_
          refine a_loc [(0, .ref (za Z 60 0))] [1] rfl ?_
          exact w_X11_next_193 (l := l) hZ   (0 : Int32)  _ hF
        · replace hF := (if_pos q4).symm.trans hF
          refine a_iconst (v := (4 : Int32)) dX11_next_188 (by decide) ?_
          refine a_goto 193 dX11_next_189 (by decide) ?_
          refine a_loc [(0, .ref (za Z 60 0))] [1] rfl ?_
          exact w_X11_next_193 (l := l) hZ   (4 : Int32)  _ hF
      · replace hF := (if_neg q3).symm.trans hF
        refine a_loc [(0, .ref (za Z 60 0))] [1] rfl ?_
        exact w_X11_next_119 (l := l) hZ  (F_X11_next_146 (zg Z)  ) (w_X11_next_146 (l := l) hZ  ) fu   _ hF
    · replace hF := (if_neg q2).symm.trans hF
      refine a_loc [(0, .ref (za Z 60 0))] [1] rfl ?_
      exact w_X11_next_77 (l := l) hZ  (F_X11_next_104 (zg Z)  ) (w_X11_next_104 (l := l) hZ  ) fu   _ hF
  · replace hF := (if_pos q1).symm.trans hF
    refine a_aload_n dX11_next_62 1 rfl rfl ?_
    refine a_iconst (v := (1 : Int32)) dX11_next_63 (by decide) ?_
    refine a_put hZ.1 (hZ.2 60 0 (by decide) (by decide) Nat.one_pos) fl_X11_234 rfl rfl rfl dX11_next_64 ?_
    refine a_goto 196 dX11_next_67 (by decide) ?_
    refine a_loc [(0, .ref (za Z 60 0))] [1] rfl ?_
    exact w_X11_next_196 (l := l) hZ     _ hF
set_option maxRecDepth 100000 in
set_option maxHeartbeats 4000000 in
theorem w_X11_next_26 {Z : ZE} {l : Launch} (hZ : OkM Z)   {R : Unit × St} (h0_ : St → Option (Unit × St)) (w0_ : ∀   (s : St), h0_  s = some R → AW Z l iX11_next (Pq (rU R)) 0 0 0 [(0, .ref (za Z 60 0))] [] s) (h39_ : St → Option (Unit × St)) (w39_ : ∀   (s : St), h39_  s = some R → AW Z l iX11_next (Pq (rU R)) 0 0 39 [(0, .ref (za Z 60 0))] [] s)   (s : St) (hF : F_X11_next_26 (zg Z)  h0_ h39_  s = some R) : AW Z l iX11_next (Pq (rU R)) 0 0 26 [(0, .ref (za Z 60 0))] [] s := by
  unfold F_X11_next_26 at hF
  refine a_aload_n dX11_next_26 0 rfl rfl ?_
  refine a_dup dX11_next_27 rfl ?_
  refine a_getI hZ.1 (s 60 0 34) (hZ.2 60 0 (by decide) (by decide) Nat.one_pos) fl_X11_225 rfl rfl dX11_next_28 ?_
  refine a_iconst (v := (1 : Int32)) dX11_next_31 (by decide) ?_
  refine a_iadd dX11_next_32 ?_
  refine a_put hZ.1 (hZ.2 60 0 (by decide) (by decide) Nat.one_pos) fl_X11_225 rfl rfl rfl dX11_next_33 ?_
  refine a_goto 0 dX11_next_36 (by decide) ?_
  exact w0_   _ hF
set_option maxRecDepth 100000 in
set_option maxHeartbeats 4000000 in
theorem w_X11_next_0 {Z : ZE} {l : Launch} (hZ : OkM Z)   {R : Unit × St} (h39_ : St → Option (Unit × St)) (w39_ : ∀   (s : St), h39_  s = some R → AW Z l iX11_next (Pq (rU R)) 0 0 39 [(0, .ref (za Z 60 0))] [] s) : ∀ (n_ : Nat)   (s : St), F_X11_next_0 (zg Z)  h39_ n_  s = some R → AW Z l iX11_next (Pq (rU R)) 0 0 0 [(0, .ref (za Z 60 0))] [] s := by
  intro n_
  induction n_ with
  | zero =>
    intro  s hF
    exact absurd hF (by rw [F_X11_next_0]; exact fun q => by cases q)
  | succ n_ w0_ =>
    intro  s hF
    rw [F_X11_next_0] at hF
    refine a_aload_n dX11_next_0 0 rfl rfl ?_
    refine a_aload_n dX11_next_1 0 rfl rfl ?_
    refine a_getI hZ.1 (s 60 0 34) (hZ.2 60 0 (by decide) (by decide) Nat.one_pos) fl_X11_225 rfl rfl dX11_next_2 ?_
    obtain ⟨r5, s5, e5, hF⟩ := bd_some hF
    refine a_invV hZ.1 (As := [.int (s 60 0 34)]) (rest := []) (hZ.2 60 0 (by decide) (by decide) Nat.one_pos) lk_X11_228 ⟨⟨by decide, by decide⟩, by decide, by decide⟩ rfl (Nat.le_of_ble_eq_true rfl) dX11_next_5 (m_X11_byteAt hZ  e5) ?_
    show AW Z l iX11_next (Pq (rU R)) 0 0 8 [(0, .ref (za Z 60 0))] [.int r5] s5
    refine a_bipush (v := (32 : Int32)) dX11_next_8 (by decide) ?_
    refine a_icmp_eq 26 dX11_next_10 (by decide) (fun q1 => ?_) (fun q1 => ?_)
    · replace hF := (if_pos q1).symm.trans hF
      exact w_X11_next_26 (l := l) hZ  (F_X11_next_0 (zg Z)  h39_ n_) w0_ h39_ w39_   _ hF
    · replace hF := (if_neg q1).symm.trans hF
      refine a_aload_n dX11_next_13 0 rfl rfl ?_
      refine a_aload_n dX11_next_14 0 rfl rfl ?_
      refine a_getI hZ.1 (s5 60 0 34) (hZ.2 60 0 (by decide) (by decide) Nat.one_pos) fl_X11_225 rfl rfl dX11_next_15 ?_
      obtain ⟨r18, s18, e18, hF⟩ := bd_some hF
      refine a_invV hZ.1 (As := [.int (s5 60 0 34)]) (rest := []) (hZ.2 60 0 (by decide) (by decide) Nat.one_pos) lk_X11_228 ⟨⟨by decide, by decide⟩, by decide, by decide⟩ rfl (Nat.le_of_ble_eq_true rfl) dX11_next_18 (m_X11_byteAt hZ  e18) ?_
      show AW Z l iX11_next (Pq (rU R)) 0 0 21 [(0, .ref (za Z 60 0))] [.int r18] s18
      refine a_bipush (v := (10 : Int32)) dX11_next_21 (by decide) ?_
      refine a_icmp_ne 39 dX11_next_23 (by decide) (fun q2 => ?_) (fun q2 => ?_)
      · replace hF := (if_neg q2).symm.trans hF
        exact w39_   _ hF
      · replace hF := (if_pos q2).symm.trans hF
        exact w_X11_next_26 (l := l) hZ  (F_X11_next_0 (zg Z)  h39_ n_) w0_ h39_ w39_   _ hF
set_option maxRecDepth 100000 in
set_option maxHeartbeats 4000000 in
theorem w_X11_next {Z : ZE} {l : Launch} (hZ : OkM Z)   {R : Unit × St}    (s : St) (hF : F_X11_next (zg Z)   s = some R) : AW Z l iX11_next (Pq (rU R)) 0 0 0 [(0, .ref (za Z 60 0))] [] s := by
  unfold F_X11_next at hF
  exact w_X11_next_0 (l := l) hZ  (F_X11_next_39 (zg Z)  ) (w_X11_next_39 (l := l) hZ  ) fu   _ hF
theorem m_X11_next {Z : ZE} {l : Launch} (hZ : OkM Z)   {s : St} {R : Unit × St} (hF : F_X11_next (zg Z)  s = some R) : Sp Z l yX11_next iX11_next [.ref (za Z 60 0)] s (rU R) :=
  Sp.of (by decide) rfl (Nat.le_of_ble_eq_true rfl) (w_X11_next hZ  s hF)
-- X11_must
set_option maxRecDepth 100000 in
set_option maxHeartbeats 4000000 in
theorem w_X11_must_9 {Z : ZE} {l : Launch} (hZ : OkM Z) {a1 : Int32}  {R : Unit × St}    (s : St) (hF : F_X11_must_9 (zg Z) a1  s = some R) : AW Z l iX11_must (Pq (rU R)) 0 0 9 [(0, .ref (za Z 60 0))] [] s := by
  unfold F_X11_must_9 at hF
  refine a_aload_n dX11_must_9 0 rfl rfl ?_
  refine a_getI hZ.1 (s 60 0 38) (hZ.2 60 0 (by decide) (by decide) Nat.one_pos) fl_X11_246 rfl rfl dX11_must_10 ?_
  refine a_if_ne 20 dX11_must_13 (by decide) (fun q1 => ?_) (fun q1 => ?_)
  · replace hF := (if_neg q1).symm.trans hF
    replace hF := Option.some.inj hF
    subst hF
    exact a_vret rfl (Nat.zero_le _) (Nat.zero_le _) dX11_must_20 ⟨rfl, rfl⟩
  · replace hF := (if_pos q1).symm.trans hF
    refine a_aload_n dX11_must_16 0 rfl rfl ?_
    obtain ⟨r17, s17, e17, hF⟩ := bd_some hF
    refine a_invV hZ.1 (As := []) (rest := []) (hZ.2 60 0 (by decide) (by decide) Nat.one_pos) lk_X11_255 ⟨⟨by decide, by decide⟩, by decide, by decide⟩ rfl (Nat.le_of_ble_eq_true rfl) dX11_must_17 (m_X11_next hZ  e17) ?_
    show AW Z l iX11_must (Pq (rU R)) 0 0 20 [(0, .ref (za Z 60 0))] [] s17
    replace hF := Option.some.inj hF
    subst hF
    exact a_vret rfl (Nat.zero_le _) (Nat.zero_le _) dX11_must_20 ⟨rfl, rfl⟩
set_option maxRecDepth 100000 in
set_option maxHeartbeats 4000000 in
theorem w_X11_must {Z : ZE} {l : Launch} (hZ : OkM Z) {a1 : Int32}  {R : Unit × St}    (s : St) (hF : F_X11_must (zg Z) a1  s = some R) : AW Z l iX11_must (Pq (rU R)) 0 0 0 [(0, .ref (za Z 60 0)), (1, .int a1)] [] s := by
  unfold F_X11_must at hF
  refine a_iload_n dX11_must_0 1 rfl rfl ?_
  refine a_if_ne 9 dX11_must_1 (by decide) (fun q1 => ?_) (fun q1 => ?_)
  · replace hF := (if_neg q1).symm.trans hF
    refine a_loc [(0, .ref (za Z 60 0))] [0] rfl ?_
    exact w_X11_must_9 (l := l) hZ     _ hF
  · replace hF := (if_pos q1).symm.trans hF
    refine a_aload_n dX11_must_4 0 rfl rfl ?_
    refine a_iconst (v := (1 : Int32)) dX11_must_5 (by decide) ?_
    obtain ⟨r6, s6, e6, hF⟩ := bd_some hF
    refine a_invV hZ.1 (As := [.int (1 : Int32)]) (rest := []) (hZ.2 60 0 (by decide) (by decide) Nat.one_pos) lk_X11_252 ⟨⟨by decide, by decide⟩, by decide, by decide⟩ rfl (Nat.le_of_ble_eq_true rfl) dX11_must_6 (m_X11_bad hZ  e6) ?_
    show AW Z l iX11_must (Pq (rU R)) 0 0 9 [(0, .ref (za Z 60 0)), (1, .int a1)] [] s6
    refine a_loc [(0, .ref (za Z 60 0))] [0] rfl ?_
    exact w_X11_must_9 (l := l) hZ     _ hF
theorem m_X11_must {Z : ZE} {l : Launch} (hZ : OkM Z) {a1 : Int32}  {s : St} {R : Unit × St} (hF : F_X11_must (zg Z) a1 s = some R) : Sp Z l yX11_must iX11_must [.ref (za Z 60 0), .int a1] s (rU R) :=
  Sp.of (by decide) rfl (Nat.le_of_ble_eq_true rfl) (w_X11_must hZ  s hF)
-- X11_numberTo
set_option maxRecDepth 100000 in
set_option maxHeartbeats 4000000 in
theorem w_X11_numberTo_85 {Z : ZE} {l : Launch} (hZ : OkM Z) {a1 : Int32}  {R : Int32 × St}  (v2 : Int32) (x1 : Int32)  (s : St) (hF : F_X11_numberTo_85 (zg Z) a1 v2 x1 s = some R) : AW Z l iX11_numberTo (Pq (rI R)) 0 0 85 [(2, .int v2)] [.int x1, .ref (za Z 60 0)] s := by
  unfold F_X11_numberTo_85 at hF
  obtain ⟨r85, s85, e85, hF⟩ := bd_some hF
  refine a_invV hZ.1 (As := [.int x1]) (rest := []) (hZ.2 60 0 (by decide) (by decide) Nat.one_pos) lk_X11_258 ⟨⟨by decide, by decide⟩, by decide, by decide⟩ rfl (Nat.le_of_ble_eq_true rfl) dX11_numberTo_85 (m_X11_must hZ  e85) ?_
  show AW Z l iX11_numberTo (Pq (rI R)) 0 0 88 [(2, .int v2)] [] s85
  refine a_iload_n dX11_numberTo_88 0 rfl rfl ?_
  replace hF := Option.some.inj hF
  subst hF
  exact a_iret rfl (Nat.zero_le _) (Nat.zero_le _) dX11_numberTo_89 ⟨rfl, rfl⟩
set_option maxRecDepth 100000 in
set_option maxHeartbeats 4000000 in
theorem w_X11_numberTo_71 {Z : ZE} {l : Launch} (hZ : OkM Z) {a1 : Int32}  {R : Int32 × St}  (v2 : Int32)  (s : St) (hF : F_X11_numberTo_71 (zg Z) a1 v2 s = some R) : AW Z l iX11_numberTo (Pq (rI R)) 0 0 71 [(0, .ref (za Z 60 0)), (2, .int v2)] [] s := by
  unfold F_X11_numberTo_71 at hF
  refine a_aload_n dX11_numberTo_71 0 rfl rfl ?_
  refine a_aload_n dX11_numberTo_72 0 rfl rfl ?_
  refine a_getI hZ.1 (s 60 0 35) (hZ.2 60 0 (by decide) (by decide) Nat.one_pos) fl_X11_234 rfl rfl dX11_numberTo_73 ?_
  refine a_iconst (v := (3 : Int32)) dX11_numberTo_76 (by decide) ?_
  refine a_icmp_ne 84 dX11_numberTo_77 (by decide) (fun q1 => ?_) (fun q1 => ?_)
  · replace hF := (if_neg q1).symm.trans hF
    refine a_iconst (v := (0 : Int32)) dX11_numberTo_84 (by decide) ?_
    refine a_loc [(2, .int v2)] [1] rfl ?_
    exact w_X11_numberTo_85 (l := l) hZ   v2 (0 : Int32)  _ hF
  · replace hF := (if_pos q1).symm.trans hF
    refine a_iconst (v := (1 : Int32)) dX11_numberTo_80 (by decide) ?_
    refine a_goto 85 dX11_numberTo_81 (by decide) ?_
    refine a_loc [(2, .int v2)] [1] rfl ?_
    exact w_X11_numberTo_85 (l := l) hZ   v2 (1 : Int32)  _ hF
set_option maxRecDepth 100000 in
set_option maxHeartbeats 4000000 in
theorem w_X11_numberTo_53 {Z : ZE} {l : Launch} (hZ : OkM Z) {a1 : Int32}  {R : Int32 × St}  (v2 : Int32)  (s : St) (hF : F_X11_numberTo_53 (zg Z) a1 v2 s = some R) : AW Z l iX11_numberTo (Pq (rI R)) 0 0 53 [(0, .ref (za Z 60 0)), (1, .int a1), (2, .int v2)] [] s := by
  unfold F_X11_numberTo_53 at hF
  refine a_aload_n dX11_numberTo_53 0 rfl rfl ?_
  refine a_getI hZ.1 (s 60 0 35) (hZ.2 60 0 (by decide) (by decide) Nat.one_pos) fl_X11_234 rfl rfl dX11_numberTo_54 ?_
  refine a_iconst (v := (3 : Int32)) dX11_numberTo_57 (by decide) ?_
  refine a_icmp_ne 71 dX11_numberTo_58 (by decide) (fun q1 => ?_) (fun q1 => ?_)
  · replace hF := (if_neg q1).symm.trans hF
    refine a_loc [(0, .ref (za Z 60 0)), (2, .int v2)] [0, 2] rfl ?_
    exact w_X11_numberTo_71 (l := l) hZ   v2  _ hF
  · replace hF := (if_pos q1).symm.trans hF
    refine a_iload_n dX11_numberTo_61 2 rfl rfl ?_
    refine a_iload_n dX11_numberTo_62 1 rfl rfl ?_
    refine a_icmp_le 71 dX11_numberTo_63 (by decide) (fun q2 => ?_) (fun q2 => ?_)
    · replace hF := (if_pos q2).symm.trans hF
      refine a_loc [(0, .ref (za Z 60 0)), (2, .int v2)] [0, 2] rfl ?_
      exact w_X11_numberTo_71 (l := l) hZ   v2  _ hF
    · replace hF := (if_neg q2).symm.trans hF
      refine a_aload_n dX11_numberTo_66 0 rfl rfl ?_
      refine a_iconst (v := (2 : Int32)) dX11_numberTo_67 (by decide) ?_
      obtain ⟨r68, s68, e68, hF⟩ := bd_some hF
      refine a_invV hZ.1 (As := [.int (2 : Int32)]) (rest := []) (hZ.2 60 0 (by decide) (by decide) Nat.one_pos) lk_X11_252 ⟨⟨by decide, by decide⟩, by decide, by decide⟩ rfl (Nat.le_of_ble_eq_true rfl) dX11_numberTo_68 (m_X11_bad hZ  e68) ?_
      show AW Z l iX11_numberTo (Pq (rI R)) 0 0 71 [(0, .ref (za Z 60 0)), (1, .int a1), (2, .int v2)] [] s68
      refine a_loc [(0, .ref (za Z 60 0)), (2, .int v2)] [0, 2] rfl ?_
      exact w_X11_numberTo_71 (l := l) hZ   v2  _ hF
set_option maxRecDepth 100000 in
set_option maxHeartbeats 4000000 in
theorem w_X11_numberTo_16 {Z : ZE} {l : Launch} (hZ : OkM Z) {a1 : Int32}  {R : Int32 × St} (h53_ : Int32 → St → Option (Int32 × St)) (w53_ : ∀ (v2 : Int32)  (s : St), h53_ v2 s = some R → AW Z l iX11_numberTo (Pq (rI R)) 0 0 53 [(0, .ref (za Z 60 0)), (1, .int a1), (2, .int v2)] [] s) : ∀ (n_ : Nat) (v2 : Int32) (v3 : Int32)  (s : St), F_X11_numberTo_16 (zg Z) a1 h53_ n_ v2 v3 s = some R → AW Z l iX11_numberTo (Pq (rI R)) 0 0 16 [(0, .ref (za Z 60 0)), (1, .int a1), (2, .int v2), (3, .int v3)] [] s := by
  intro n_
  induction n_ with
  | zero =>
    intro v2 v3 s hF
    exact absurd hF (by rw [F_X11_numberTo_16]; exact fun q => by cases q)
  | succ n_ w16_ =>
    intro v2 v3 s hF
    rw [F_X11_numberTo_16] at hF
    refine a_iload_n dX11_numberTo_16 3 rfl rfl ?_
    refine a_aload_n dX11_numberTo_17 0 rfl rfl ?_
    refine a_getI hZ.1 (s 60 0 37) (hZ.2 60 0 (by decide) (by decide) Nat.one_pos) fl_X11_243 rfl rfl dX11_numberTo_18 ?_
    refine a_icmp_ge 53 dX11_numberTo_21 (by decide) (fun q1 => ?_) (fun q1 => ?_)
    · replace hF := (if_pos q1).symm.trans hF
      refine a_loc [(0, .ref (za Z 60 0)), (1, .int a1), (2, .int v2)] [0, 1, 2] rfl ?_
      exact w53_ v2  _ hF
    · replace hF := (if_neg q1).symm.trans hF
      refine a_aload_n dX11_numberTo_24 0 rfl rfl ?_
      refine a_getI hZ.1 (s 60 0 35) (hZ.2 60 0 (by decide) (by decide) Nat.one_pos) fl_X11_234 rfl rfl dX11_numberTo_25 ?_
      refine a_iconst (v := (3 : Int32)) dX11_numberTo_28 (by decide) ?_
      refine a_icmp_ne 53 dX11_numberTo_29 (by decide) (fun q2 => ?_) (fun q2 => ?_)
      · replace hF := (if_neg q2).symm.trans hF
        refine a_loc [(0, .ref (za Z 60 0)), (1, .int a1), (2, .int v2)] [0, 1, 2] rfl ?_
        exact w53_ v2  _ hF
      · replace hF := (if_pos q2).symm.trans hF
        refine a_bipush (v := (10 : Int32)) dX11_numberTo_32 (by decide) ?_
        refine a_iload_n dX11_numberTo_34 2 rfl rfl ?_
        refine a_imul dX11_numberTo_35 ?_
        refine a_aload_n dX11_numberTo_36 0 rfl rfl ?_
        refine a_getR hZ.1 (hZ.2 60 0 (by decide) (by decide) Nat.one_pos) fl_X11_85 rfl 0 rfl dX11_numberTo_37 ?_
        refine a_iload_n dX11_numberTo_40 3 rfl rfl ?_
        obtain ⟨p3, hF⟩ := gd_some hF
        refine a_iald hZ.1 (s 82 0 v3.toNatClampNeg) (hZ.2 82 0 (by decide) (by decide) Nat.one_pos) rfl rfl (inb_vp p3) rfl dX11_numberTo_41 ?_
        refine a_iadd dX11_numberTo_42 ?_
        refine a_bipush (v := (48 : Int32)) dX11_numberTo_43 (by decide) ?_
        refine a_isub dX11_numberTo_45 ?_
        refine a_istore_n [(2, .int ((((10 : Int32) * v2) + (s 82 0 v3.toNatClampNeg)) - (48 : Int32))), (0, .ref (za Z 60 0)), (1, .int a1), (3, .int v3)] dX11_numberTo_46 rfl (by decide) rfl ?_
        refine a_iinc [(3, .int (v3 + 1)), (2, .int ((((10 : Int32) * v2) + (s 82 0 v3.toNatClampNeg)) - (48 : Int32))), (0, .ref (za Z 60 0)), (1, .int a1)] dX11_numberTo_47 3 rfl rfl (by decide) rfl ?_
        refine a_goto 16 dX11_numberTo_50 (by decide) ?_
        refine a_loc [(0, .ref (za Z 60 0)), (1, .int a1), (2, .int ((((10 : Int32) * v2) + (s 82 0 v3.toNatClampNeg)) - (48 : Int32))), (3, .int (v3 + 1))] [2, 3, 1, 0] rfl ?_
        exact w16_ ((((10 : Int32) * v2) + (s 82 0 v3.toNatClampNeg)) - (48 : Int32)) (v3 + 1)  _ hF
set_option maxRecDepth 100000 in
set_option maxHeartbeats 4000000 in
theorem w_X11_numberTo {Z : ZE} {l : Launch} (hZ : OkM Z) {a1 : Int32}  {R : Int32 × St}    (s : St) (hF : F_X11_numberTo (zg Z) a1  s = some R) : AW Z l iX11_numberTo (Pq (rI R)) 0 0 0 [(0, .ref (za Z 60 0)), (1, .int a1)] [] s := by
  unfold F_X11_numberTo at hF
  refine a_aload_n dX11_numberTo_0 0 rfl rfl ?_
  refine a_getI hZ.1 (s 60 0 38) (hZ.2 60 0 (by decide) (by decide) Nat.one_pos) fl_X11_246 rfl rfl dX11_numberTo_1 ?_
  refine a_if_le 9 dX11_numberTo_4 (by decide) (fun q1 => ?_) (fun q1 => ?_)
  · replace hF := (if_pos q1).symm.trans hF
    refine a_iconst (v := (0 : Int32)) dX11_numberTo_9 (by decide) ?_
    refine a_istore_n [(2, .int (0 : Int32)), (0, .ref (za Z 60 0)), (1, .int a1)] dX11_numberTo_10 rfl (by decide) rfl ?_
    refine a_aload_n dX11_numberTo_11 1 rfl rfl ?_
    refine a_getI hZ.1 (s 60 0 36) (hZ.2 60 0 (by decide) (by decide) Nat.one_pos) fl_X11_231 rfl rfl dX11_numberTo_12 ?_
    refine a_istore_n [(3, .int (s 60 0 36)), (2, .int (0 : Int32)), (0, .ref (za Z 60 0)), (1, .int a1)] dX11_numberTo_15 rfl (by decide) rfl ?_
    refine a_loc [(0, .ref (za Z 60 0)), (1, .int a1), (2, .int (0 : Int32)), (3, .int (s 60 0 36))] [2, 3, 1, 0] rfl ?_
    exact w_X11_numberTo_16 (l := l) hZ  (F_X11_numberTo_53 (zg Z) a1 ) (w_X11_numberTo_53 (l := l) hZ  ) fu (0 : Int32) (s 60 0 36)  _ hF
  · replace hF := (if_neg q1).symm.trans hF
    refine a_iconst (v := (0 : Int32)) dX11_numberTo_7 (by decide) ?_
    replace hF := Option.some.inj hF
    subst hF
    exact a_iret rfl (Nat.zero_le _) (Nat.zero_le _) dX11_numberTo_8 ⟨rfl, rfl⟩
theorem m_X11_numberTo {Z : ZE} {l : Launch} (hZ : OkM Z) {a1 : Int32}  {s : St} {R : Int32 × St} (hF : F_X11_numberTo (zg Z) a1 s = some R) : Sp Z l yX11_numberTo iX11_numberTo [.ref (za Z 60 0), .int a1] s (rI R) :=
  Sp.of (by decide) rfl (Nat.le_of_ble_eq_true rfl) (w_X11_numberTo hZ  s hF)
-- X11_word
set_option maxRecDepth 100000 in
set_option maxHeartbeats 4000000 in
theorem w_X11_word_7 {Z : ZE} {l : Launch} (hZ : OkM Z)   {R : Int64 × St}  : ∀ (n_ : Nat) (v1 : Int64) (v3 : Int32)  (s : St), F_X11_word_7 (zg Z)  n_ v1 v3 s = some R → AW Z l iX11_word (Pq (rJ R)) 0 0 7 [(0, .ref (za Z 60 0)), (1, .long v1), (3, .int v3)] [] s := by
  intro n_
  induction n_ with
  | zero =>
    intro v1 v3 s hF
    exact absurd hF (by rw [F_X11_word_7]; exact fun q => by cases q)
  | succ n_ w7_ =>
    intro v1 v3 s hF
    rw [F_X11_word_7] at hF
    refine a_iload_n dX11_word_7 2 rfl rfl ?_
    refine a_aload_n dX11_word_8 0 rfl rfl ?_
    refine a_getI hZ.1 (s 60 0 37) (hZ.2 60 0 (by decide) (by decide) Nat.one_pos) fl_X11_243 rfl rfl dX11_word_9 ?_
    refine a_icmp_ge 56 dX11_word_12 (by decide) (fun q1 => ?_) (fun q1 => ?_)
    · replace hF := (if_pos q1).symm.trans hF
      refine a_lload_n dX11_word_56 1 rfl rfl ?_
      replace hF := Option.some.inj hF
      subst hF
      exact a_lret rfl (Nat.zero_le _) (Nat.zero_le _) dX11_word_57 ⟨rfl, rfl⟩
    · replace hF := (if_neg q1).symm.trans hF
      refine a_aload_n dX11_word_15 0 rfl rfl ?_
      refine a_getI hZ.1 (s 60 0 35) (hZ.2 60 0 (by decide) (by decide) Nat.one_pos) fl_X11_234 rfl rfl dX11_word_16 ?_
      refine a_iconst (v := (2 : Int32)) dX11_word_19 (by decide) ?_
      refine a_icmp_ne 56 dX11_word_20 (by decide) (fun q2 => ?_) (fun q2 => ?_)
      · replace hF := (if_neg q2).symm.trans hF
        refine a_lload_n dX11_word_56 1 rfl rfl ?_
        replace hF := Option.some.inj hF
        subst hF
        exact a_lret rfl (Nat.zero_le _) (Nat.zero_le _) dX11_word_57 ⟨rfl, rfl⟩
      · replace hF := (if_pos q2).symm.trans hF
        refine a_aload_n dX11_word_23 0 rfl rfl ?_
        refine a_getI hZ.1 (s 60 0 37) (hZ.2 60 0 (by decide) (by decide) Nat.one_pos) fl_X11_243 rfl rfl dX11_word_24 ?_
        refine a_aload_n dX11_word_27 0 rfl rfl ?_
        refine a_getI hZ.1 (s 60 0 36) (hZ.2 60 0 (by decide) (by decide) Nat.one_pos) fl_X11_231 rfl rfl dX11_word_28 ?_
        refine a_isub dX11_word_31 ?_
        refine a_bipush (v := (8 : Int32)) dX11_word_32 (by decide) ?_
        refine a_icmp_ge 56 dX11_word_34 (by decide) (fun q3 => ?_) (fun q3 => ?_)
        · replace hF := (if_pos q3).symm.trans hF
          refine a_lload_n dX11_word_56 1 rfl rfl ?_
          replace hF := Option.some.inj hF
          subst hF
          exact a_lret rfl (Nat.zero_le _) (Nat.zero_le _) dX11_word_57 ⟨rfl, rfl⟩
        · replace hF := (if_neg q3).symm.trans hF
          refine a_lload_n dX11_word_37 1 rfl rfl ?_
          refine a_bipush (v := (8 : Int32)) dX11_word_38 (by decide) ?_
          refine a_lshl dX11_word_40 ?_
          refine a_aload_n dX11_word_41 0 rfl rfl ?_
          refine a_getR hZ.1 (hZ.2 60 0 (by decide) (by decide) Nat.one_pos) fl_X11_85 rfl 0 rfl dX11_word_42 ?_
          refine a_iload_n dX11_word_45 2 rfl rfl ?_
          obtain ⟨p4, hF⟩ := gd_some hF
          refine a_iald hZ.1 (s 82 0 v3.toNatClampNeg) (hZ.2 82 0 (by decide) (by decide) Nat.one_pos) rfl rfl (inb_vp p4) rfl dX11_word_46 ?_
          refine a_i2l dX11_word_47 ?_
          refine a_lor dX11_word_48 ?_
          refine a_lstore_n [(1, .long ((v1 <<< ((8 : Int32).toInt64 &&& 63)) ||| (s 82 0 v3.toNatClampNeg).toInt64)), (0, .ref (za Z 60 0)), (3, .int v3)] dX11_word_49 rfl (by decide) rfl ?_
          refine a_iinc [(3, .int (v3 + 1)), (1, .long ((v1 <<< ((8 : Int32).toInt64 &&& 63)) ||| (s 82 0 v3.toNatClampNeg).toInt64)), (0, .ref (za Z 60 0))] dX11_word_50 2 rfl rfl (by decide) rfl ?_
          refine a_goto 7 dX11_word_53 (by decide) ?_
          refine a_loc [(0, .ref (za Z 60 0)), (1, .long ((v1 <<< ((8 : Int32).toInt64 &&& 63)) ||| (s 82 0 v3.toNatClampNeg).toInt64)), (3, .int (v3 + 1))] [2, 1, 0] rfl ?_
          exact w7_ ((v1 <<< ((8 : Int32).toInt64 &&& 63)) ||| (s 82 0 v3.toNatClampNeg).toInt64) (v3 + 1)  _ hF
set_option maxRecDepth 100000 in
set_option maxHeartbeats 4000000 in
theorem w_X11_word {Z : ZE} {l : Launch} (hZ : OkM Z)   {R : Int64 × St}    (s : St) (hF : F_X11_word (zg Z)   s = some R) : AW Z l iX11_word (Pq (rJ R)) 0 0 0 [(0, .ref (za Z 60 0))] [] s := by
  unfold F_X11_word at hF
  refine a_lconst (v := (0 : Int64)) dX11_word_0 (by decide) ?_
  refine a_lstore_n [(1, .long (0 : Int64)), (0, .ref (za Z 60 0))] dX11_word_1 rfl (by decide) rfl ?_
  refine a_aload_n dX11_word_2 1 rfl rfl ?_
  refine a_getI hZ.1 (s 60 0 36) (hZ.2 60 0 (by decide) (by decide) Nat.one_pos) fl_X11_231 rfl rfl dX11_word_3 ?_
  refine a_istore_n [(3, .int (s 60 0 36)), (1, .long (0 : Int64)), (0, .ref (za Z 60 0))] dX11_word_6 rfl (by decide) rfl ?_
  refine a_loc [(0, .ref (za Z 60 0)), (1, .long (0 : Int64)), (3, .int (s 60 0 36))] [2, 1, 0] rfl ?_
  exact w_X11_word_7 (l := l) hZ   fu (0 : Int64) (s 60 0 36)  _ hF
theorem m_X11_word {Z : ZE} {l : Launch} (hZ : OkM Z)   {s : St} {R : Int64 × St} (hF : F_X11_word (zg Z)  s = some R) : Sp Z l yX11_word iX11_word [.ref (za Z 60 0)] s (rJ R) :=
  Sp.of (by decide) rfl (Nat.le_of_ble_eq_true rfl) (w_X11_word hZ  s hF)
-- X11_ruleOfWord
set_option maxRecDepth 100000 in
set_option maxHeartbeats 4000000 in
theorem w_X11_ruleOfWord {Z : ZE} {l : Launch} (hZ : OkM Z)   {R : Int32 × St}    (s : St) (hF : F_X11_ruleOfWord (zg Z)   s = some R) : AW Z l iX11_ruleOfWord (Pq (rI R)) 0 0 0 [(0, .ref (za Z 60 0))] [] s := by
  unfold F_X11_ruleOfWord at hF
  refine a_aload_n dX11_ruleOfWord_0 0 rfl rfl ?_
  obtain ⟨r1, s1, e1, hF⟩ := bd_some hF
  refine a_invV hZ.1 (As := []) (rest := []) (hZ.2 60 0 (by decide) (by decide) Nat.one_pos) lk_X11_262 ⟨⟨by decide, by decide⟩, by decide, by decide⟩ rfl (Nat.le_of_ble_eq_true rfl) dX11_ruleOfWord_1 (m_X11_word hZ  e1) ?_
  show AW Z l iX11_ruleOfWord (Pq (rI R)) 0 0 4 [(0, .ref (za Z 60 0))] [.long r1] s1
  refine a_lstore_n [(1, .long r1), (0, .ref (za Z 60 0))] dX11_ruleOfWord_4 rfl (by decide) rfl ?_
  refine a_lload_n dX11_ruleOfWord_5 0 rfl rfl ?_
  refine a_ldc2 (v := (482804589413 : Int64)) kw_1301 dX11_ruleOfWord_6 ?_
  refine a_lcmp dX11_ruleOfWord_9 ?_
  refine a_if_ne 17 dX11_ruleOfWord_10 (by decide) (fun q1 => ?_) (fun q1 => ?_)
  · replace hF := (if_neg q1).symm.trans hF
    refine a_lload_n dX11_ruleOfWord_17 0 rfl rfl ?_
    refine a_ldc2 (v := (125779936109926 : Int64)) kw_1302 dX11_ruleOfWord_18 ?_
    refine a_lcmp dX11_ruleOfWord_21 ?_
    refine a_if_ne 29 dX11_ruleOfWord_22 (by decide) (fun q2 => ?_) (fun q2 => ?_)
    · replace hF := (if_neg q2).symm.trans hF
      refine a_lload_n dX11_ruleOfWord_29 0 rfl rfl ?_
      refine a_ldc2 (v := (465625246068 : Int64)) kw_1303 dX11_ruleOfWord_30 ?_
      refine a_lcmp dX11_ruleOfWord_33 ?_
      refine a_if_ne 41 dX11_ruleOfWord_34 (by decide) (fun q3 => ?_) (fun q3 => ?_)
      · replace hF := (if_neg q3).symm.trans hF
        refine a_lload_n dX11_ruleOfWord_41 0 rfl rfl ?_
        refine a_ldc2 (v := (422826041700 : Int64)) kw_1304 dX11_ruleOfWord_42 ?_
        refine a_lcmp dX11_ruleOfWord_45 ?_
        refine a_if_ne 53 dX11_ruleOfWord_46 (by decide) (fun q4 => ?_) (fun q4 => ?_)
        · replace hF := (if_neg q4).symm.trans hF
          refine a_lload_n dX11_ruleOfWord_53 0 rfl rfl ?_
          refine a_ldc2 (v := (439855772532 : Int64)) kw_1305 dX11_ruleOfWord_54 ?_
          refine a_lcmp dX11_ruleOfWord_57 ?_
          refine a_if_ne 65 dX11_ruleOfWord_58 (by decide) (fun q5 => ?_) (fun q5 => ?_)
          · replace hF := (if_neg q5).symm.trans hF
            refine a_ldc (v := (-1000000)) kw_951 dX11_ruleOfWord_65 ?_
            replace hF := Option.some.inj hF
            subst hF
            exact a_iret rfl (Nat.zero_le _) (Nat.zero_le _) dX11_ruleOfWord_67 ⟨rfl, rfl⟩
          · replace hF := (if_pos q5).symm.trans hF
            refine a_iconst (v := (4 : Int32)) dX11_ruleOfWord_61 (by decide) ?_
            refine a_goto 67 dX11_ruleOfWord_62 (by decide) ?_
            replace hF := Option.some.inj hF
            subst hF
            exact a_iret rfl (Nat.zero_le _) (Nat.zero_le _) dX11_ruleOfWord_67 ⟨rfl, rfl⟩
        · replace hF := (if_pos q4).symm.trans hF
          refine a_iconst (v := (3 : Int32)) dX11_ruleOfWord_49 (by decide) ?_
          refine a_goto 67 dX11_ruleOfWord_50 (by decide) ?_
          replace hF := Option.some.inj hF
          subst hF
          exact a_iret rfl (Nat.zero_le _) (Nat.zero_le _) dX11_ruleOfWord_67 ⟨rfl, rfl⟩
      · replace hF := (if_pos q3).symm.trans hF
        refine a_iconst (v := (2 : Int32)) dX11_ruleOfWord_37 (by decide) ?_
        refine a_goto 67 dX11_ruleOfWord_38 (by decide) ?_
        replace hF := Option.some.inj hF
        subst hF
        exact a_iret rfl (Nat.zero_le _) (Nat.zero_le _) dX11_ruleOfWord_67 ⟨rfl, rfl⟩
    · replace hF := (if_pos q2).symm.trans hF
      refine a_iconst (v := (1 : Int32)) dX11_ruleOfWord_25 (by decide) ?_
      refine a_goto 67 dX11_ruleOfWord_26 (by decide) ?_
      replace hF := Option.some.inj hF
      subst hF
      exact a_iret rfl (Nat.zero_le _) (Nat.zero_le _) dX11_ruleOfWord_67 ⟨rfl, rfl⟩
  · replace hF := (if_pos q1).symm.trans hF
    refine a_iconst (v := (0 : Int32)) dX11_ruleOfWord_13 (by decide) ?_
    refine a_goto 67 dX11_ruleOfWord_14 (by decide) ?_
    replace hF := Option.some.inj hF
    subst hF
    exact a_iret rfl (Nat.zero_le _) (Nat.zero_le _) dX11_ruleOfWord_67 ⟨rfl, rfl⟩
theorem m_X11_ruleOfWord {Z : ZE} {l : Launch} (hZ : OkM Z)   {s : St} {R : Int32 × St} (hF : F_X11_ruleOfWord (zg Z)  s = some R) : Sp Z l yX11_ruleOfWord iX11_ruleOfWord [.ref (za Z 60 0)] s (rI R) :=
  Sp.of (by decide) rfl (Nat.le_of_ble_eq_true rfl) (w_X11_ruleOfWord hZ  s hF)
-- X11_readRule
set_option maxRecDepth 100000 in
set_option maxHeartbeats 4000000 in
theorem w_X11_readRule_129 {Z : ZE} {l : Launch} (hZ : OkM Z) {a1 : Int32}  {R : Unit × St}  (x1 : Int32) (x2 : Int32)  (s : St) (hF : F_X11_readRule_129 (zg Z) a1 x1 x2 s = some R) : AW Z l iX11_readRule (Pq (rU R)) 0 0 129 [(0, .ref (za Z 60 0))] [.int x2, .int x1, .ref (za Z 81 0)] s := by
  unfold F_X11_readRule_129 at hF
  obtain ⟨p1, hF⟩ := gd_some hF
  refine a_iast hZ.1 (hZ.2 81 0 (by decide) (by decide) Nat.one_pos) rfl rfl (inb_vp p1) dX11_readRule_129 ?_
  refine a_aload_n dX11_readRule_130 0 rfl rfl ?_
  refine a_dup dX11_readRule_131 rfl ?_
  refine a_getI hZ.1 (s 60 0 29) (hZ.2 60 0 (by decide) (by decide) Nat.one_pos) fl_X11_280 rfl rfl dX11_readRule_132 ?_
  refine a_iconst (v := (1 : Int32)) dX11_readRule_135 (by decide) ?_
  refine a_iadd dX11_readRule_136 ?_
  refine a_put hZ.1 (hZ.2 60 0 (by decide) (by decide) Nat.one_pos) fl_X11_280 rfl rfl rfl dX11_readRule_137 ?_
  replace hF := Option.some.inj hF
  subst hF
  exact a_vret rfl (Nat.zero_le _) (Nat.zero_le _) dX11_readRule_140 ⟨rfl, rfl⟩
set_option maxRecDepth 100000 in
set_option maxHeartbeats 4000000 in
theorem w_X11_readRule_126 {Z : ZE} {l : Launch} (hZ : OkM Z) {a1 : Int32}  {R : Unit × St}  (x1 : Int32) (x3 : Int32)  (s : St) (hF : F_X11_readRule_126 (zg Z) a1 x1 x3 s = some R) : AW Z l iX11_readRule (Pq (rU R)) 0 0 126 [(0, .ref (za Z 60 0))] [.int x3, .ref (za Z 60 0), .int x1, .ref (za Z 81 0)] s := by
  unfold F_X11_readRule_126 at hF
  obtain ⟨r126, s126, e126, hF⟩ := bd_some hF
  refine a_invV hZ.1 (As := [.int x3]) (rest := [.int x1, .ref (za Z 81 0)]) (hZ.2 60 0 (by decide) (by decide) Nat.one_pos) lk_X11_283 ⟨⟨by decide, by decide⟩, by decide, by decide⟩ rfl (Nat.le_of_ble_eq_true rfl) dX11_readRule_126 (m_X11_numberTo hZ  e126) ?_
  show AW Z l iX11_readRule (Pq (rU R)) 0 0 129 [(0, .ref (za Z 60 0))] [.int r126, .int x1, .ref (za Z 81 0)] s126
  exact w_X11_readRule_129 (l := l) hZ   x1 r126  _ hF
set_option maxRecDepth 100000 in
set_option maxHeartbeats 4000000 in
theorem w_X11_readRule_94 {Z : ZE} {l : Launch} (hZ : OkM Z) {a1 : Int32}  {R : Unit × St}  (v2 : Int32) (x1 : Int32) (x2 : Int32)  (s : St) (hF : F_X11_readRule_94 (zg Z) a1 v2 x1 x2 s = some R) : AW Z l iX11_readRule (Pq (rU R)) 0 0 94 [(0, .ref (za Z 60 0)), (2, .int v2)] [.int x2, .int x1, .ref (za Z 80 0)] s := by
  unfold F_X11_readRule_94 at hF
  obtain ⟨p1, hF⟩ := gd_some hF
  refine a_iast hZ.1 (hZ.2 80 0 (by decide) (by decide) Nat.one_pos) rfl rfl (inb_vp p1) dX11_readRule_94 ?_
  refine a_aload_n dX11_readRule_95 0 rfl rfl ?_
  refine a_getR hZ.1 (hZ.2 60 0 (by decide) (by decide) Nat.one_pos) fl_X11_82 rfl 0 rfl dX11_readRule_96 ?_
  refine a_aload_n dX11_readRule_99 0 rfl rfl ?_
  refine a_getI hZ.1 (s 60 0 29) (hZ.2 60 0 (by decide) (by decide) Nat.one_pos) fl_X11_280 rfl rfl dX11_readRule_100 ?_
  refine a_iload_n dX11_readRule_103 1 rfl rfl ?_
  refine a_iconst (v := (4 : Int32)) dX11_readRule_104 (by decide) ?_
  refine a_icmp_ne 112 dX11_readRule_105 (by decide) (fun q2 => ?_) (fun q2 => ?_)
  · replace hF := (if_neg q2).symm.trans hF
    refine a_aload_n dX11_readRule_112 0 rfl rfl ?_
    refine a_iload_n dX11_readRule_113 1 rfl rfl ?_
    refine a_iconst (v := (2 : Int32)) dX11_readRule_114 (by decide) ?_
    refine a_icmp_ne 124 dX11_readRule_115 (by decide) (fun q3 => ?_) (fun q3 => ?_)
    · replace hF := (if_neg q3).symm.trans hF
      refine a_bipush (v := (99 : Int32)) dX11_readRule_124 (by decide) ?_
      refine a_loc [(0, .ref (za Z 60 0))] [0] rfl ?_
      exact w_X11_readRule_126 (l := l) hZ   (s 60 0 29) (99 : Int32)  _ hF
    · replace hF := (if_pos q3).symm.trans hF
      refine a_sipush (v := (9999 : Int32)) dX11_readRule_118 (by decide) ?_
      refine a_goto 126 dX11_readRule_121 (by decide) ?_
      refine a_loc [(0, .ref (za Z 60 0))] [0] rfl ?_
      exact w_X11_readRule_126 (l := l) hZ   (s 60 0 29) (9999 : Int32)  _ hF
  · replace hF := (if_pos q2).symm.trans hF
    refine a_iconst (v := (0 : Int32)) dX11_readRule_108 (by decide) ?_
    refine a_goto 129 dX11_readRule_109 (by decide) ?_
    refine a_loc [(0, .ref (za Z 60 0))] [0] rfl ?_
    exact w_X11_readRule_129 (l := l) hZ   (s 60 0 29) (0 : Int32)  _ hF
set_option maxRecDepth 100000 in
set_option maxHeartbeats 4000000 in
theorem w_X11_readRule_85 {Z : ZE} {l : Launch} (hZ : OkM Z) {a1 : Int32}  {R : Unit × St}  (v2 : Int32) (x1 : Int32)  (s : St) (hF : F_X11_readRule_85 (zg Z) a1 v2 x1 s = some R) : AW Z l iX11_readRule (Pq (rU R)) 0 0 85 [(0, .ref (za Z 60 0)), (2, .int v2)] [.int x1, .ref (za Z 80 0)] s := by
  unfold F_X11_readRule_85 at hF
  refine a_aload_n dX11_readRule_85 0 rfl rfl ?_
  refine a_iconst (v := (3 : Int32)) dX11_readRule_86 (by decide) ?_
  obtain ⟨r87, s87, e87, hF⟩ := bd_some hF
  refine a_invV hZ.1 (As := [.int (3 : Int32)]) (rest := [.int x1, .ref (za Z 80 0)]) (hZ.2 60 0 (by decide) (by decide) Nat.one_pos) lk_X11_283 ⟨⟨by decide, by decide⟩, by decide, by decide⟩ rfl (Nat.le_of_ble_eq_true rfl) dX11_readRule_87 (m_X11_numberTo hZ  e87) ?_
  show AW Z l iX11_readRule (Pq (rU R)) 0 0 90 [(0, .ref (za Z 60 0)), (2, .int v2)] [.int r87, .int x1, .ref (za Z 80 0)] s87
  refine a_goto 94 dX11_readRule_90 (by decide) ?_
  exact w_X11_readRule_94 (l := l) hZ   v2 x1 r87  _ hF
set_option maxRecDepth 100000 in
set_option maxHeartbeats 4000000 in
theorem w_X11_readRule_37 {Z : ZE} {l : Launch} (hZ : OkM Z) {a1 : Int32}  {R : Unit × St}  (v2 : Int32) (x1 : Int32)  (s : St) (hF : F_X11_readRule_37 (zg Z) a1 v2 x1 s = some R) : AW Z l iX11_readRule (Pq (rU R)) 0 0 37 [(0, .ref (za Z 60 0)), (1, .int a1), (2, .int v2)] [.int x1, .ref (za Z 60 0)] s := by
  unfold F_X11_readRule_37 at hF
  obtain ⟨r37, s37, e37, hF⟩ := bd_some hF
  refine a_invV hZ.1 (As := [.int x1]) (rest := []) (hZ.2 60 0 (by decide) (by decide) Nat.one_pos) lk_X11_258 ⟨⟨by decide, by decide⟩, by decide, by decide⟩ rfl (Nat.le_of_ble_eq_true rfl) dX11_readRule_37 (m_X11_must hZ  e37) ?_
  show AW Z l iX11_readRule (Pq (rU R)) 0 0 40 [(0, .ref (za Z 60 0)), (1, .int a1), (2, .int v2)] [] s37
  refine a_aload_n dX11_readRule_40 0 rfl rfl ?_
  refine a_getI hZ.1 (s37 60 0 38) (hZ.2 60 0 (by decide) (by decide) Nat.one_pos) fl_X11_246 rfl rfl dX11_readRule_41 ?_
  refine a_if_le 48 dX11_readRule_44 (by decide) (fun q1 => ?_) (fun q1 => ?_)
  · replace hF := (if_pos q1).symm.trans hF
    refine a_aload_n dX11_readRule_48 0 rfl rfl ?_
    refine a_getR hZ.1 (hZ.2 60 0 (by decide) (by decide) Nat.one_pos) fl_X11_73 rfl 0 rfl dX11_readRule_49 ?_
    refine a_aload_n dX11_readRule_52 0 rfl rfl ?_
    refine a_getI hZ.1 (s37 60 0 29) (hZ.2 60 0 (by decide) (by decide) Nat.one_pos) fl_X11_280 rfl rfl dX11_readRule_53 ?_
    refine a_iload_n dX11_readRule_56 1 rfl rfl ?_
    obtain ⟨p2, hF⟩ := gd_some hF
    refine a_iast hZ.1 (hZ.2 78 0 (by decide) (by decide) Nat.one_pos) rfl rfl (inb_vp p2) dX11_readRule_57 ?_
    refine a_aload_n dX11_readRule_58 0 rfl rfl ?_
    refine a_getR hZ.1 (hZ.2 60 0 (by decide) (by decide) Nat.one_pos) fl_X11_76 rfl 0 rfl dX11_readRule_59 ?_
    refine a_aload_n dX11_readRule_62 0 rfl rfl ?_
    refine a_getI hZ.1 (s37 60 0 29) (hZ.2 60 0 (by decide) (by decide) Nat.one_pos) fl_X11_280 rfl rfl dX11_readRule_63 ?_
    refine a_iload_n dX11_readRule_66 2 rfl rfl ?_
    obtain ⟨p3, hF⟩ := gd_some hF
    refine a_iast hZ.1 (hZ.2 79 0 (by decide) (by decide) Nat.one_pos) rfl rfl (inb_vp p3) dX11_readRule_67 ?_
    refine a_aload_n dX11_readRule_68 0 rfl rfl ?_
    refine a_getR hZ.1 (hZ.2 60 0 (by decide) (by decide) Nat.one_pos) fl_X11_79 rfl 0 rfl dX11_readRule_69 ?_
    refine a_aload_n dX11_readRule_72 0 rfl rfl ?_
    refine a_getI hZ.1 (s37 60 0 29) (hZ.2 60 0 (by decide) (by decide) Nat.one_pos) fl_X11_280 rfl rfl dX11_readRule_73 ?_
    refine a_iload_n dX11_readRule_76 2 rfl rfl ?_
    refine a_if_eq 85 dX11_readRule_77 (by decide) (fun q4 => ?_) (fun q4 => ?_)
    · replace hF := (if_pos q4).symm.trans hF
      refine a_loc [(0, .ref (za Z 60 0)), (2, .int v2)] [0, 2] rfl ?_
      exact w_X11_readRule_85 (l := l) hZ   v2 (s37 60 0 29)  _ hF
    · replace hF := (if_neg q4).symm.trans hF
      refine a_iload_n dX11_readRule_80 2 rfl rfl ?_
      refine a_iconst (v := (4 : Int32)) dX11_readRule_81 (by decide) ?_
      refine a_icmp_ne 93 dX11_readRule_82 (by decide) (fun q5 => ?_) (fun q5 => ?_)
      · replace hF := (if_neg q5).symm.trans hF
        refine a_iconst (v := (0 : Int32)) dX11_readRule_93 (by decide) ?_
        refine a_loc [(0, .ref (za Z 60 0)), (2, .int v2)] [0, 2] rfl ?_
        exact w_X11_readRule_94 (l := l) hZ   v2 (s37 60 0 29) (0 : Int32)  _ hF
      · replace hF := (if_pos q5).symm.trans hF
        refine a_loc [(0, .ref (za Z 60 0)), (2, .int v2)] [0, 2] rfl ?_
        exact w_X11_readRule_85 (l := l) hZ   v2 (s37 60 0 29)  _ hF
  · replace hF := (if_neg q1).symm.trans hF
    replace hF := Option.some.inj hF
    subst hF
    exact a_vret rfl (Nat.zero_le _) (Nat.zero_le _) dX11_readRule_47 ⟨rfl, rfl⟩
set_option maxRecDepth 100000 in
set_option maxHeartbeats 4000000 in
theorem w_X11_readRule_25 {Z : ZE} {l : Launch} (hZ : OkM Z) {a1 : Int32}  {R : Unit × St}  (v2 : Int32)  (s : St) (hF : F_X11_readRule_25 (zg Z) a1 v2 s = some R) : AW Z l iX11_readRule (Pq (rU R)) 0 0 25 [(0, .ref (za Z 60 0)), (1, .int a1), (2, .int v2)] [] s := by
  unfold F_X11_readRule_25 at hF
  refine a_aload_n dX11_readRule_25 0 rfl rfl ?_
  refine a_iload_n dX11_readRule_26 2 rfl rfl ?_
  refine a_ldc (v := (-1000000)) kw_951 dX11_readRule_27 ?_
  refine a_icmp_eq 36 dX11_readRule_29 (by decide) (fun q1 => ?_) (fun q1 => ?_)
  · replace hF := (if_pos q1).symm.trans hF
    refine a_iconst (v := (0 : Int32)) dX11_readRule_36 (by decide) ?_
    exact w_X11_readRule_37 (l := l) hZ   v2 (0 : Int32)  _ hF
  · replace hF := (if_neg q1).symm.trans hF
    refine a_iconst (v := (1 : Int32)) dX11_readRule_32 (by decide) ?_
    refine a_goto 37 dX11_readRule_33 (by decide) ?_
    exact w_X11_readRule_37 (l := l) hZ   v2 (1 : Int32)  _ hF
set_option maxRecDepth 100000 in
set_option maxHeartbeats 4000000 in
theorem w_X11_readRule {Z : ZE} {l : Launch} (hZ : OkM Z) {a1 : Int32}  {R : Unit × St}    (s : St) (hF : F_X11_readRule (zg Z) a1  s = some R) : AW Z l iX11_readRule (Pq (rU R)) 0 0 0 [(0, .ref (za Z 60 0)), (1, .int a1)] [] s := by
  unfold F_X11_readRule at hF
  refine a_aload_n dX11_readRule_0 0 rfl rfl ?_
  obtain ⟨r1, s1, e1, hF⟩ := bd_some hF
  refine a_invV hZ.1 (As := []) (rest := []) (hZ.2 60 0 (by decide) (by decide) Nat.one_pos) lk_X11_276 ⟨⟨by decide, by decide⟩, by decide, by decide⟩ rfl (Nat.le_of_ble_eq_true rfl) dX11_readRule_1 (m_X11_ruleOfWord hZ  e1) ?_
  show AW Z l iX11_readRule (Pq (rU R)) 0 0 4 [(0, .ref (za Z 60 0)), (1, .int a1)] [.int r1] s1
  refine a_istore_n [(2, .int r1), (0, .ref (za Z 60 0)), (1, .int a1)] dX11_readRule_4 rfl (by decide) rfl ?_
  refine a_iload_n dX11_readRule_5 0 rfl rfl ?_
  refine a_ldc (v := (-1000000)) kw_951 dX11_readRule_6 ?_
  refine a_icmp_eq 25 dX11_readRule_8 (by decide) (fun q1 => ?_) (fun q1 => ?_)
  · replace hF := (if_pos q1).symm.trans hF
    refine a_loc [(0, .ref (za Z 60 0)), (1, .int a1), (2, .int r1)] [1, 2, 0] rfl ?_
    exact w_X11_readRule_25 (l := l) hZ   r1  _ hF
  · replace hF := (if_neg q1).symm.trans hF
    refine a_aload_n dX11_readRule_11 1 rfl rfl ?_
    refine a_getI hZ.1 (s1 60 0 29) (hZ.2 60 0 (by decide) (by decide) Nat.one_pos) fl_X11_280 rfl rfl dX11_readRule_12 ?_
    refine a_bipush (v := (30 : Int32)) dX11_readRule_15 (by decide) ?_
    refine a_icmp_ne 25 dX11_readRule_17 (by decide) (fun q2 => ?_) (fun q2 => ?_)
    · replace hF := (if_neg q2).symm.trans hF
      refine a_loc [(0, .ref (za Z 60 0)), (1, .int a1), (2, .int r1)] [1, 2, 0] rfl ?_
      exact w_X11_readRule_25 (l := l) hZ   r1  _ hF
    · replace hF := (if_pos q2).symm.trans hF
      refine a_aload_n dX11_readRule_20 1 rfl rfl ?_
      refine a_iconst (v := (3 : Int32)) dX11_readRule_21 (by decide) ?_
      obtain ⟨r22, s22, e22, hF⟩ := bd_some hF
      refine a_invV hZ.1 (As := [.int (3 : Int32)]) (rest := []) (hZ.2 60 0 (by decide) (by decide) Nat.one_pos) lk_X11_252 ⟨⟨by decide, by decide⟩, by decide, by decide⟩ rfl (Nat.le_of_ble_eq_true rfl) dX11_readRule_22 (m_X11_bad hZ  e22) ?_
      show AW Z l iX11_readRule (Pq (rU R)) 0 0 25 [(2, .int r1), (0, .ref (za Z 60 0)), (1, .int a1)] [] s22
      refine a_loc [(0, .ref (za Z 60 0)), (1, .int a1), (2, .int r1)] [1, 2, 0] rfl ?_
      exact w_X11_readRule_25 (l := l) hZ   r1  _ hF
theorem m_X11_readRule {Z : ZE} {l : Launch} (hZ : OkM Z) {a1 : Int32}  {s : St} {R : Unit × St} (hF : F_X11_readRule (zg Z) a1 s = some R) : Sp Z l yX11_readRule iX11_readRule [.ref (za Z 60 0), .int a1] s (rU R) :=
  Sp.of (by decide) rfl (Nat.le_of_ble_eq_true rfl) (w_X11_readRule hZ  s hF)
-- X11_lists
set_option maxRecDepth 100000 in
set_option maxHeartbeats 4000000 in
theorem w_X11_lists_156 {Z : ZE} {l : Launch} (hZ : OkM Z)   {R : Int32 × St}    (s : St) (hF : F_X11_lists_156 (zg Z)   s = some R) : AW Z l iX11_lists (Pq (rI R)) 0 0 156 [(0, .ref (za Z 60 0))] [] s := by
  unfold F_X11_lists_156 at hF
  refine a_aload_n dX11_lists_156 0 rfl rfl ?_
  refine a_getI hZ.1 (s 60 0 38) (hZ.2 60 0 (by decide) (by decide) Nat.one_pos) fl_X11_246 rfl rfl dX11_lists_157 ?_
  refine a_if_le 180 dX11_lists_160 (by decide) (fun q1 => ?_) (fun q1 => ?_)
  · replace hF := (if_pos q1).symm.trans hF
    refine a_aload_n dX11_lists_180 0 rfl rfl ?_
    refine a_aload_n dX11_lists_181 0 rfl rfl ?_
    refine a_getI hZ.1 (s 60 0 29) (hZ.2 60 0 (by decide) (by decide) Nat.one_pos) fl_X11_280 rfl rfl dX11_lists_182 ?_
    refine a_put hZ.1 (hZ.2 60 0 (by decide) (by decide) Nat.one_pos) fl_X11_286 rfl rfl rfl dX11_lists_185 ?_
    refine a_aload_n dX11_lists_188 0 rfl rfl ?_
    refine a_getI hZ.1 (s 60 0 29) (hZ.2 60 0 (by decide) (by decide) Nat.one_pos) fl_X11_286 rfl (by simp [up]) dX11_lists_189 ?_
    replace hF := Option.some.inj hF
    subst hF
    exact a_iret rfl (Nat.zero_le _) (Nat.zero_le _) dX11_lists_192 ⟨rfl, rfl⟩
  · replace hF := (if_neg q1).symm.trans hF
    refine a_aload_n dX11_lists_163 0 rfl rfl ?_
    refine a_aload_n dX11_lists_164 0 rfl rfl ?_
    refine a_getI hZ.1 (s 60 0 38) (hZ.2 60 0 (by decide) (by decide) Nat.one_pos) fl_X11_246 rfl rfl dX11_lists_165 ?_
    refine a_put hZ.1 (hZ.2 60 0 (by decide) (by decide) Nat.one_pos) fl_X11_294 rfl rfl rfl dX11_lists_168 ?_
    refine a_ldcw (v := (-1000100)) kw_1306 dX11_lists_171 ?_
    refine a_aload_n dX11_lists_174 0 rfl rfl ?_
    refine a_getI hZ.1 (s 60 0 39) (hZ.2 60 0 (by decide) (by decide) Nat.one_pos) fl_X11_249 rfl (by simp [up]) dX11_lists_175 ?_
    refine a_isub dX11_lists_178 ?_
    replace hF := Option.some.inj hF
    subst hF
    exact a_iret rfl (Nat.zero_le _) (Nat.zero_le _) dX11_lists_179 ⟨rfl, rfl⟩
set_option maxRecDepth 100000 in
set_option maxHeartbeats 4000000 in
theorem w_X11_lists_153 {Z : ZE} {l : Launch} (hZ : OkM Z)   {R : Int32 × St} (h40_ : St → Option (Int32 × St)) (w40_ : ∀   (s : St), h40_  s = some R → AW Z l iX11_lists (Pq (rI R)) 0 0 40 [(0, .ref (za Z 60 0))] [] s) (h156_ : St → Option (Int32 × St)) (w156_ : ∀   (s : St), h156_  s = some R → AW Z l iX11_lists (Pq (rI R)) 0 0 156 [(0, .ref (za Z 60 0))] [] s)   (s : St) (hF : F_X11_lists_153 (zg Z)  h40_ h156_  s = some R) : AW Z l iX11_lists (Pq (rI R)) 0 0 153 [(0, .ref (za Z 60 0))] [] s := by
  unfold F_X11_lists_153 at hF
  refine a_goto 40 dX11_lists_153 (by decide) ?_
  exact w40_   _ hF
set_option maxRecDepth 100000 in
set_option maxHeartbeats 4000000 in
theorem w_X11_lists_150 {Z : ZE} {l : Launch} (hZ : OkM Z)   {R : Int32 × St} (h40_ : St → Option (Int32 × St)) (w40_ : ∀   (s : St), h40_  s = some R → AW Z l iX11_lists (Pq (rI R)) 0 0 40 [(0, .ref (za Z 60 0))] [] s) (h156_ : St → Option (Int32 × St)) (w156_ : ∀   (s : St), h156_  s = some R → AW Z l iX11_lists (Pq (rI R)) 0 0 156 [(0, .ref (za Z 60 0))] [] s) (x1 : Int32)  (s : St) (hF : F_X11_lists_150 (zg Z)  h40_ h156_ x1 s = some R) : AW Z l iX11_lists (Pq (rI R)) 0 0 150 [(0, .ref (za Z 60 0))] [.int x1, .ref (za Z 60 0)] s := by
  unfold F_X11_lists_150 at hF
  obtain ⟨r150, s150, e150, hF⟩ := bd_some hF
  refine a_invV hZ.1 (As := [.int x1]) (rest := []) (hZ.2 60 0 (by decide) (by decide) Nat.one_pos) lk_X11_258 ⟨⟨by decide, by decide⟩, by decide, by decide⟩ rfl (Nat.le_of_ble_eq_true rfl) dX11_lists_150 (m_X11_must hZ  e150) ?_
  show AW Z l iX11_lists (Pq (rI R)) 0 0 153 [(0, .ref (za Z 60 0))] [] s150
  exact w_X11_lists_153 (l := l) hZ  h40_ w40_ h156_ w156_   _ hF
set_option maxRecDepth 100000 in
set_option maxHeartbeats 4000000 in
theorem w_X11_lists_129 {Z : ZE} {l : Launch} (hZ : OkM Z)   {R : Int32 × St} (h40_ : St → Option (Int32 × St)) (w40_ : ∀   (s : St), h40_  s = some R → AW Z l iX11_lists (Pq (rI R)) 0 0 40 [(0, .ref (za Z 60 0))] [] s) (h156_ : St → Option (Int32 × St)) (w156_ : ∀   (s : St), h156_  s = some R → AW Z l iX11_lists (Pq (rI R)) 0 0 156 [(0, .ref (za Z 60 0))] [] s)   (s : St) (hF : F_X11_lists_129 (zg Z)  h40_ h156_  s = some R) : AW Z l iX11_lists (Pq (rI R)) 0 0 129 [(0, .ref (za Z 60 0))] [] s := by
  unfold F_X11_lists_129 at hF
  refine a_aload_n dX11_lists_129 0 rfl rfl ?_
  refine a_getI hZ.1 (s 60 0 38) (hZ.2 60 0 (by decide) (by decide) Nat.one_pos) fl_X11_246 rfl rfl dX11_lists_130 ?_
  refine a_if_ne 153 dX11_lists_133 (by decide) (fun q1 => ?_) (fun q1 => ?_)
  · replace hF := (if_neg q1).symm.trans hF
    exact w_X11_lists_153 (l := l) hZ  h40_ w40_ h156_ w156_   _ hF
  · replace hF := (if_pos q1).symm.trans hF
    refine a_aload_n dX11_lists_136 0 rfl rfl ?_
    refine a_aload_n dX11_lists_137 0 rfl rfl ?_
    refine a_getI hZ.1 (s 60 0 35) (hZ.2 60 0 (by decide) (by decide) Nat.one_pos) fl_X11_234 rfl rfl dX11_lists_138 ?_
    refine a_iconst (v := (4 : Int32)) dX11_lists_141 (by decide) ?_
    refine a_icmp_ne 149 dX11_lists_142 (by decide) (fun q2 => ?_) (fun q2 => ?_)
    · replace hF := (if_neg q2).symm.trans hF
      refine a_iconst (v := (0 : Int32)) dX11_lists_149 (by decide) ?_
      exact w_X11_lists_150 (l := l) hZ  h40_ w40_ h156_ w156_ (0 : Int32)  _ hF
    · replace hF := (if_pos q2).symm.trans hF
      refine a_iconst (v := (1 : Int32)) dX11_lists_145 (by decide) ?_
      refine a_goto 150 dX11_lists_146 (by decide) ?_
      exact w_X11_lists_150 (l := l) hZ  h40_ w40_ h156_ w156_ (1 : Int32)  _ hF
set_option maxRecDepth 100000 in
set_option maxHeartbeats 4000000 in
theorem w_X11_lists_125 {Z : ZE} {l : Launch} (hZ : OkM Z)   {R : Int32 × St} (h95_ : Int32 → Int32 → St → Option (Int32 × St)) (w95_ : ∀ (v1 : Int32) (v2 : Int32)  (s : St), h95_ v1 v2 s = some R → AW Z l iX11_lists (Pq (rI R)) 0 0 95 [(0, .ref (za Z 60 0)), (1, .int v1), (2, .int v2)] [] s) (h129_ : St → Option (Int32 × St)) (w129_ : ∀   (s : St), h129_  s = some R → AW Z l iX11_lists (Pq (rI R)) 0 0 129 [(0, .ref (za Z 60 0))] [] s) (v1 : Int32) (x0 : Int32)  (s : St) (hF : F_X11_lists_125 (zg Z)  h95_ h129_ v1 x0 s = some R) : AW Z l iX11_lists (Pq (rI R)) 0 0 125 [(0, .ref (za Z 60 0)), (1, .int v1)] [.int x0] s := by
  unfold F_X11_lists_125 at hF
  refine a_istore_n [(2, .int x0), (0, .ref (za Z 60 0)), (1, .int v1)] dX11_lists_125 rfl (by decide) rfl ?_
  refine a_goto 95 dX11_lists_126 (by decide) ?_
  refine a_loc [(0, .ref (za Z 60 0)), (1, .int v1), (2, .int x0)] [1, 2, 0] rfl ?_
  exact w95_ v1 x0  _ hF
set_option maxRecDepth 100000 in
set_option maxHeartbeats 4000000 in
theorem w_X11_lists_124 {Z : ZE} {l : Launch} (hZ : OkM Z)   {R : Int32 × St} (h95_ : Int32 → Int32 → St → Option (Int32 × St)) (w95_ : ∀ (v1 : Int32) (v2 : Int32)  (s : St), h95_ v1 v2 s = some R → AW Z l iX11_lists (Pq (rI R)) 0 0 95 [(0, .ref (za Z 60 0)), (1, .int v1), (2, .int v2)] [] s) (h129_ : St → Option (Int32 × St)) (w129_ : ∀   (s : St), h129_  s = some R → AW Z l iX11_lists (Pq (rI R)) 0 0 129 [(0, .ref (za Z 60 0))] [] s) (v1 : Int32)  (s : St) (hF : F_X11_lists_124 (zg Z)  h95_ h129_ v1 s = some R) : AW Z l iX11_lists (Pq (rI R)) 0 0 124 [(0, .ref (za Z 60 0)), (1, .int v1)] [] s := by
  unfold F_X11_lists_124 at hF
  refine a_iconst (v := (0 : Int32)) dX11_lists_124 (by decide) ?_
  exact w_X11_lists_125 (l := l) hZ  h95_ w95_ h129_ w129_ v1 (0 : Int32)  _ hF
set_option maxRecDepth 100000 in
set_option maxHeartbeats 4000000 in
theorem w_X11_lists_95 {Z : ZE} {l : Launch} (hZ : OkM Z)   {R : Int32 × St} (h129_ : St → Option (Int32 × St)) (w129_ : ∀   (s : St), h129_  s = some R → AW Z l iX11_lists (Pq (rI R)) 0 0 129 [(0, .ref (za Z 60 0))] [] s) : ∀ (n_ : Nat) (v1 : Int32) (v2 : Int32)  (s : St), F_X11_lists_95 (zg Z)  h129_ n_ v1 v2 s = some R → AW Z l iX11_lists (Pq (rI R)) 0 0 95 [(0, .ref (za Z 60 0)), (1, .int v1), (2, .int v2)] [] s := by
  intro n_
  induction n_ with
  | zero =>
    intro v1 v2 s hF
    exact absurd hF (by rw [F_X11_lists_95]; exact fun q => by cases q)
  | succ n_ w95_ =>
    intro v1 v2 s hF
    rw [F_X11_lists_95] at hF
    refine a_iload_n dX11_lists_95 2 rfl rfl ?_
    refine a_if_eq 129 dX11_lists_96 (by decide) (fun q1 => ?_) (fun q1 => ?_)
    · replace hF := (if_pos q1).symm.trans hF
      refine a_loc [(0, .ref (za Z 60 0))] [0] rfl ?_
      exact w129_   _ hF
    · replace hF := (if_neg q1).symm.trans hF
      refine a_aload_n dX11_lists_99 0 rfl rfl ?_
      refine a_iload_n dX11_lists_100 1 rfl rfl ?_
      obtain ⟨r101, s101, e101, hF⟩ := bd_some hF
      refine a_invV hZ.1 (As := [.int v1]) (rest := []) (hZ.2 60 0 (by decide) (by decide) Nat.one_pos) lk_X11_291 ⟨⟨by decide, by decide⟩, by decide, by decide⟩ rfl (Nat.le_of_ble_eq_true rfl) dX11_lists_101 (m_X11_readRule hZ  e101) ?_
      show AW Z l iX11_lists (Pq (rI R)) 0 0 104 [(0, .ref (za Z 60 0)), (1, .int v1), (2, .int v2)] [] s101
      refine a_aload_n dX11_lists_104 0 rfl rfl ?_
      refine a_getI hZ.1 (s101 60 0 38) (hZ.2 60 0 (by decide) (by decide) Nat.one_pos) fl_X11_246 rfl rfl dX11_lists_105 ?_
      refine a_if_ne 124 dX11_lists_108 (by decide) (fun q2 => ?_) (fun q2 => ?_)
      · replace hF := (if_neg q2).symm.trans hF
        refine a_loc [(0, .ref (za Z 60 0)), (1, .int v1)] [0, 1] rfl ?_
        exact w_X11_lists_124 (l := l) hZ  (F_X11_lists_95 (zg Z)  h129_ n_) w95_ h129_ w129_ v1  _ hF
      · replace hF := (if_pos q2).symm.trans hF
        refine a_aload_n dX11_lists_111 0 rfl rfl ?_
        obtain ⟨r112, s112, e112, hF⟩ := bd_some hF
        refine a_invV hZ.1 (As := []) (rest := []) (hZ.2 60 0 (by decide) (by decide) Nat.one_pos) lk_X11_276 ⟨⟨by decide, by decide⟩, by decide, by decide⟩ rfl (Nat.le_of_ble_eq_true rfl) dX11_lists_112 (m_X11_ruleOfWord hZ  e112) ?_
        show AW Z l iX11_lists (Pq (rI R)) 0 0 115 [(0, .ref (za Z 60 0)), (1, .int v1), (2, .int v2)] [.int r112] s112
        refine a_ldc (v := (-1000000)) kw_951 dX11_lists_115 ?_
        refine a_icmp_eq 124 dX11_lists_117 (by decide) (fun q3 => ?_) (fun q3 => ?_)
        · replace hF := (if_pos q3).symm.trans hF
          refine a_loc [(0, .ref (za Z 60 0)), (1, .int v1)] [0, 1] rfl ?_
          exact w_X11_lists_124 (l := l) hZ  (F_X11_lists_95 (zg Z)  h129_ n_) w95_ h129_ w129_ v1  _ hF
        · replace hF := (if_neg q3).symm.trans hF
          refine a_iconst (v := (1 : Int32)) dX11_lists_120 (by decide) ?_
          refine a_goto 125 dX11_lists_121 (by decide) ?_
          refine a_loc [(0, .ref (za Z 60 0)), (1, .int v1)] [0, 1] rfl ?_
          exact w_X11_lists_125 (l := l) hZ  (F_X11_lists_95 (zg Z)  h129_ n_) w95_ h129_ w129_ v1 (1 : Int32)  _ hF
set_option maxRecDepth 100000 in
set_option maxHeartbeats 4000000 in
theorem w_X11_lists_94 {Z : ZE} {l : Launch} (hZ : OkM Z)   {R : Int32 × St} (h40_ : St → Option (Int32 × St)) (w40_ : ∀   (s : St), h40_  s = some R → AW Z l iX11_lists (Pq (rI R)) 0 0 40 [(0, .ref (za Z 60 0))] [] s) (h156_ : St → Option (Int32 × St)) (w156_ : ∀   (s : St), h156_  s = some R → AW Z l iX11_lists (Pq (rI R)) 0 0 156 [(0, .ref (za Z 60 0))] [] s) (v1 : Int32) (x0 : Int32)  (s : St) (hF : F_X11_lists_94 (zg Z)  h40_ h156_ v1 x0 s = some R) : AW Z l iX11_lists (Pq (rI R)) 0 0 94 [(0, .ref (za Z 60 0)), (1, .int v1)] [.int x0] s := by
  unfold F_X11_lists_94 at hF
  refine a_istore_n [(2, .int x0), (0, .ref (za Z 60 0)), (1, .int v1)] dX11_lists_94 rfl (by decide) rfl ?_
  refine a_loc [(0, .ref (za Z 60 0)), (1, .int v1), (2, .int x0)] [1, 2, 0] rfl ?_
  exact w_X11_lists_95 (l := l) hZ  (F_X11_lists_129 (zg Z)  h40_ h156_) (w_X11_lists_129 (l := l) hZ  h40_ w40_ h156_ w156_) fu v1 x0  _ hF
set_option maxRecDepth 100000 in
set_option maxHeartbeats 4000000 in
theorem w_X11_lists_72 {Z : ZE} {l : Launch} (hZ : OkM Z)   {R : Int32 × St} (h40_ : St → Option (Int32 × St)) (w40_ : ∀   (s : St), h40_  s = some R → AW Z l iX11_lists (Pq (rI R)) 0 0 40 [(0, .ref (za Z 60 0))] [] s) (h156_ : St → Option (Int32 × St)) (w156_ : ∀   (s : St), h156_  s = some R → AW Z l iX11_lists (Pq (rI R)) 0 0 156 [(0, .ref (za Z 60 0))] [] s) (x1 : Int32)  (s : St) (hF : F_X11_lists_72 (zg Z)  h40_ h156_ x1 s = some R) : AW Z l iX11_lists (Pq (rI R)) 0 0 72 [(0, .ref (za Z 60 0))] [.int x1, .ref (za Z 60 0)] s := by
  unfold F_X11_lists_72 at hF
  obtain ⟨r72, s72, e72, hF⟩ := bd_some hF
  refine a_invV hZ.1 (As := [.int x1]) (rest := []) (hZ.2 60 0 (by decide) (by decide) Nat.one_pos) lk_X11_258 ⟨⟨by decide, by decide⟩, by decide, by decide⟩ rfl (Nat.le_of_ble_eq_true rfl) dX11_lists_72 (m_X11_must hZ  e72) ?_
  show AW Z l iX11_lists (Pq (rI R)) 0 0 75 [(0, .ref (za Z 60 0))] [] s72
  refine a_aload_n dX11_lists_75 0 rfl rfl ?_
  refine a_bipush (v := (99 : Int32)) dX11_lists_76 (by decide) ?_
  obtain ⟨r78, s78, e78, hF⟩ := bd_some hF
  refine a_invV hZ.1 (As := [.int (99 : Int32)]) (rest := []) (hZ.2 60 0 (by decide) (by decide) Nat.one_pos) lk_X11_283 ⟨⟨by decide, by decide⟩, by decide, by decide⟩ rfl (Nat.le_of_ble_eq_true rfl) dX11_lists_78 (m_X11_numberTo hZ  e78) ?_
  show AW Z l iX11_lists (Pq (rI R)) 0 0 81 [(0, .ref (za Z 60 0))] [.int r78] s78
  refine a_istore_n [(1, .int r78), (0, .ref (za Z 60 0))] dX11_lists_81 rfl (by decide) rfl ?_
  refine a_aload_n dX11_lists_82 1 rfl rfl ?_
  refine a_getI hZ.1 (s78 60 0 38) (hZ.2 60 0 (by decide) (by decide) Nat.one_pos) fl_X11_246 rfl rfl dX11_lists_83 ?_
  refine a_if_ne 93 dX11_lists_86 (by decide) (fun q1 => ?_) (fun q1 => ?_)
  · replace hF := (if_neg q1).symm.trans hF
    refine a_iconst (v := (0 : Int32)) dX11_lists_93 (by decide) ?_
    refine a_loc [(0, .ref (za Z 60 0)), (1, .int r78)] [1, 0] rfl ?_
    exact w_X11_lists_94 (l := l) hZ  h40_ w40_ h156_ w156_ r78 (0 : Int32)  _ hF
  · replace hF := (if_pos q1).symm.trans hF
    refine a_iconst (v := (1 : Int32)) dX11_lists_89 (by decide) ?_
    refine a_goto 94 dX11_lists_90 (by decide) ?_
    refine a_loc [(0, .ref (za Z 60 0)), (1, .int r78)] [1, 0] rfl ?_
    exact w_X11_lists_94 (l := l) hZ  h40_ w40_ h156_ w156_ r78 (1 : Int32)  _ hF
set_option maxRecDepth 100000 in
set_option maxHeartbeats 4000000 in
theorem w_X11_lists_40 {Z : ZE} {l : Launch} (hZ : OkM Z)   {R : Int32 × St} (h156_ : St → Option (Int32 × St)) (w156_ : ∀   (s : St), h156_  s = some R → AW Z l iX11_lists (Pq (rI R)) 0 0 156 [(0, .ref (za Z 60 0))] [] s) : ∀ (n_ : Nat)   (s : St), F_X11_lists_40 (zg Z)  h156_ n_  s = some R → AW Z l iX11_lists (Pq (rI R)) 0 0 40 [(0, .ref (za Z 60 0))] [] s := by
  intro n_
  induction n_ with
  | zero =>
    intro  s hF
    exact absurd hF (by rw [F_X11_lists_40]; exact fun q => by cases q)
  | succ n_ w40_ =>
    intro  s hF
    rw [F_X11_lists_40] at hF
    refine a_aload_n dX11_lists_40 0 rfl rfl ?_
    refine a_getI hZ.1 (s 60 0 38) (hZ.2 60 0 (by decide) (by decide) Nat.one_pos) fl_X11_246 rfl rfl dX11_lists_41 ?_
    refine a_if_ne 156 dX11_lists_44 (by decide) (fun q1 => ?_) (fun q1 => ?_)
    · replace hF := (if_neg q1).symm.trans hF
      exact w156_   _ hF
    · replace hF := (if_pos q1).symm.trans hF
      refine a_aload_n dX11_lists_47 0 rfl rfl ?_
      refine a_getI hZ.1 (s 60 0 35) (hZ.2 60 0 (by decide) (by decide) Nat.one_pos) fl_X11_234 rfl rfl dX11_lists_48 ?_
      refine a_iconst (v := (1 : Int32)) dX11_lists_51 (by decide) ?_
      refine a_icmp_eq 156 dX11_lists_52 (by decide) (fun q2 => ?_) (fun q2 => ?_)
      · replace hF := (if_pos q2).symm.trans hF
        exact w156_   _ hF
      · replace hF := (if_neg q2).symm.trans hF
        refine a_aload_n dX11_lists_55 0 rfl rfl ?_
        refine a_aload_n dX11_lists_56 0 rfl rfl ?_
        obtain ⟨r57, s57, e57, hF⟩ := bd_some hF
        refine a_invV hZ.1 (As := []) (rest := [.ref (za Z 60 0)]) (hZ.2 60 0 (by decide) (by decide) Nat.one_pos) lk_X11_262 ⟨⟨by decide, by decide⟩, by decide, by decide⟩ rfl (Nat.le_of_ble_eq_true rfl) dX11_lists_57 (m_X11_word hZ  e57) ?_
        show AW Z l iX11_lists (Pq (rI R)) 0 0 60 [(0, .ref (za Z 60 0))] [.long r57, .ref (za Z 60 0)] s57
        refine a_ldc2 (v := (1718775661 : Int64)) kw_1280 dX11_lists_60 ?_
        refine a_lcmp dX11_lists_63 ?_
        refine a_if_ne 71 dX11_lists_64 (by decide) (fun q3 => ?_) (fun q3 => ?_)
        · replace hF := (if_neg q3).symm.trans hF
          refine a_iconst (v := (0 : Int32)) dX11_lists_71 (by decide) ?_
          exact w_X11_lists_72 (l := l) hZ  (F_X11_lists_40 (zg Z)  h156_ n_) w40_ h156_ w156_ (0 : Int32)  _ hF
        · replace hF := (if_pos q3).symm.trans hF
          refine a_iconst (v := (1 : Int32)) dX11_lists_67 (by decide) ?_
          refine a_goto 72 dX11_lists_68 (by decide) ?_
          exact w_X11_lists_72 (l := l) hZ  (F_X11_lists_40 (zg Z)  h156_ n_) w40_ h156_ w156_ (1 : Int32)  _ hF
set_option maxRecDepth 100000 in
set_option maxHeartbeats 4000000 in
theorem w_X11_lists {Z : ZE} {l : Launch} (hZ : OkM Z)   {R : Int32 × St}    (s : St) (hF : F_X11_lists (zg Z)   s = some R) : AW Z l iX11_lists (Pq (rI R)) 0 0 0 [(0, .ref (za Z 60 0))] [] s := by
  unfold F_X11_lists at hF
  refine a_aload_n dX11_lists_0 0 rfl rfl ?_
  refine a_iconst (v := (0 : Int32)) dX11_lists_1 (by decide) ?_
  refine a_put hZ.1 (hZ.2 60 0 (by decide) (by decide) Nat.one_pos) fl_X11_1 rfl rfl rfl dX11_lists_2 ?_
  refine a_aload_n dX11_lists_5 0 rfl rfl ?_
  refine a_aload_n dX11_lists_6 0 rfl rfl ?_
  refine a_getI hZ.1 (s 60 0 31) (hZ.2 60 0 (by decide) (by decide) Nat.one_pos) fl_X11_217 rfl (by simp [up]) dX11_lists_7 ?_
  refine a_put hZ.1 (hZ.2 60 0 (by decide) (by decide) Nat.one_pos) fl_X11_222 rfl rfl rfl dX11_lists_10 ?_
  refine a_aload_n dX11_lists_13 0 rfl rfl ?_
  refine a_iconst (v := (0 : Int32)) dX11_lists_14 (by decide) ?_
  refine a_put hZ.1 (hZ.2 60 0 (by decide) (by decide) Nat.one_pos) fl_X11_217 rfl rfl rfl dX11_lists_15 ?_
  refine a_aload_n dX11_lists_18 0 rfl rfl ?_
  refine a_iconst (v := (0 : Int32)) dX11_lists_19 (by decide) ?_
  refine a_put hZ.1 (hZ.2 60 0 (by decide) (by decide) Nat.one_pos) fl_X11_225 rfl rfl rfl dX11_lists_20 ?_
  refine a_aload_n dX11_lists_23 0 rfl rfl ?_
  refine a_iconst (v := (0 : Int32)) dX11_lists_24 (by decide) ?_
  refine a_put hZ.1 (hZ.2 60 0 (by decide) (by decide) Nat.one_pos) fl_X11_246 rfl rfl rfl dX11_lists_25 ?_
  refine a_aload_n dX11_lists_28 0 rfl rfl ?_
  refine a_aload_n dX11_lists_29 0 rfl rfl ?_
  refine a_getI hZ.1 (s 60 0 24) (hZ.2 60 0 (by decide) (by decide) Nat.one_pos) fl_X11_286 rfl (by simp [up]) dX11_lists_30 ?_
  refine a_put hZ.1 (hZ.2 60 0 (by decide) (by decide) Nat.one_pos) fl_X11_280 rfl rfl rfl dX11_lists_33 ?_
  refine a_aload_n dX11_lists_36 0 rfl rfl ?_
  obtain ⟨r37, s37, e37, hF⟩ := bd_some hF
  refine a_invV hZ.1 (As := []) (rest := []) (hZ.2 60 0 (by decide) (by decide) Nat.one_pos) lk_X11_255 ⟨⟨by decide, by decide⟩, by decide, by decide⟩ rfl (Nat.le_of_ble_eq_true rfl) dX11_lists_37 (m_X11_next hZ  e37) ?_
  show AW Z l iX11_lists (Pq (rI R)) 0 0 40 [(0, .ref (za Z 60 0))] [] s37
  exact w_X11_lists_40 (l := l) hZ  (F_X11_lists_156 (zg Z)  ) (w_X11_lists_156 (l := l) hZ  ) fu   _ hF
theorem m_X11_lists {Z : ZE} {l : Launch} (hZ : OkM Z)   {s : St} {R : Int32 × St} (hF : F_X11_lists (zg Z)  s = some R) : Sp Z l yX11_lists iX11_lists [.ref (za Z 60 0)] s (rI R) :=
  Sp.of (by decide) rfl (Nat.le_of_ble_eq_true rfl) (w_X11_lists hZ  s hF)
-- X11_sell
set_option maxRecDepth 100000 in
set_option maxHeartbeats 4000000 in
theorem w_X11_sell {Z : ZE} {l : Launch} (hZ : OkM Z) {a1 : Int32} {a2 : Int32}  {R : Unit × St}    (s : St) (hF : F_X11_sell (zg Z) a1 a2  s = some R) : AW Z l iX11_sell (Pq (rU R)) 0 0 0 [(0, .ref (za Z 60 0)), (1, .int a1), (2, .int a2)] [] s := by
  unfold F_X11_sell at hF
  refine a_bipush (v := (11 : Int32)) dX11_sell_0 (by decide) ?_
  refine a_iload_n dX11_sell_2 1 rfl rfl ?_
  refine a_imul dX11_sell_3 ?_
  refine a_istore_n [(3, .int ((11 : Int32) * a1)), (0, .ref (za Z 60 0)), (1, .int a1), (2, .int a2)] dX11_sell_4 rfl (by decide) rfl ?_
  refine a_aload_n dX11_sell_5 1 rfl rfl ?_
  refine a_getR hZ.1 (hZ.2 60 0 (by decide) (by decide) Nat.one_pos) fl_X11_91 rfl 0 rfl dX11_sell_6 ?_
  refine a_iload_n dX11_sell_9 0 rfl rfl ?_
  refine a_iconst (v := (3 : Int32)) dX11_sell_10 (by decide) ?_
  refine a_iadd dX11_sell_11 ?_
  obtain ⟨p1, hF⟩ := gd_some hF
  refine a_iald hZ.1 (s 84 0 (((11 : Int32) * a1) + (3 : Int32)).toNatClampNeg) (hZ.2 84 0 (by decide) (by decide) Nat.one_pos) rfl rfl (inb_vp p1) rfl dX11_sell_12 ?_
  refine a_if_ge 48 dX11_sell_13 (by decide) (fun q2 => ?_) (fun q2 => ?_)
  · replace hF := (if_pos q2).symm.trans hF
    replace hF := Option.some.inj hF
    subst hF
    exact a_vret rfl (Nat.zero_le _) (Nat.zero_le _) dX11_sell_48 ⟨rfl, rfl⟩
  · replace hF := (if_neg q2).symm.trans hF
    refine a_aload_n dX11_sell_16 1 rfl rfl ?_
    refine a_getR hZ.1 (hZ.2 60 0 (by decide) (by decide) Nat.one_pos) fl_X11_91 rfl 0 rfl dX11_sell_17 ?_
    refine a_iload_n dX11_sell_20 0 rfl rfl ?_
    refine a_iconst (v := (3 : Int32)) dX11_sell_21 (by decide) ?_
    refine a_iadd dX11_sell_22 ?_
    refine a_dup2 dX11_sell_23 rfl rfl ?_
    obtain ⟨p3, hF⟩ := gd_some hF
    refine a_iald hZ.1 (s 84 0 (((11 : Int32) * a1) + (3 : Int32)).toNatClampNeg) (hZ.2 84 0 (by decide) (by decide) Nat.one_pos) rfl rfl (inb_vp p3) rfl dX11_sell_24 ?_
    refine a_aload_n dX11_sell_25 1 rfl rfl ?_
    refine a_getR hZ.1 (hZ.2 60 0 (by decide) (by decide) Nat.one_pos) fl_X11_91 rfl 0 rfl dX11_sell_26 ?_
    refine a_iload_n dX11_sell_29 0 rfl rfl ?_
    refine a_iconst (v := (5 : Int32)) dX11_sell_30 (by decide) ?_
    refine a_iadd dX11_sell_31 ?_
    refine a_iload_n dX11_sell_32 3 rfl rfl ?_
    refine a_iadd dX11_sell_33 ?_
    obtain ⟨p4, hF⟩ := gd_some hF
    refine a_iald hZ.1 (s 84 0 ((((11 : Int32) * a1) + (5 : Int32)) + a2).toNatClampNeg) (hZ.2 84 0 (by decide) (by decide) Nat.one_pos) rfl rfl (inb_vp p4) rfl dX11_sell_34 ?_
    refine a_iadd dX11_sell_35 ?_
    obtain ⟨p5, hF⟩ := gd_some hF
    refine a_iast hZ.1 (hZ.2 84 0 (by decide) (by decide) Nat.one_pos) rfl rfl (inb_vp p5) dX11_sell_36 ?_
    refine a_aload_n dX11_sell_37 1 rfl rfl ?_
    refine a_getR hZ.1 (hZ.2 60 0 (by decide) (by decide) Nat.one_pos) fl_X11_91 rfl 0 rfl dX11_sell_38 ?_
    refine a_iload_n dX11_sell_41 0 rfl rfl ?_
    refine a_iconst (v := (5 : Int32)) dX11_sell_42 (by decide) ?_
    refine a_iadd dX11_sell_43 ?_
    refine a_iload_n dX11_sell_44 3 rfl rfl ?_
    refine a_iadd dX11_sell_45 ?_
    refine a_iconst (v := (0 : Int32)) dX11_sell_46 (by decide) ?_
    obtain ⟨p6, hF⟩ := gd_some hF
    refine a_iast hZ.1 (hZ.2 84 0 (by decide) (by decide) Nat.one_pos) rfl rfl (inb_vp p6) dX11_sell_47 ?_
    replace hF := Option.some.inj hF
    subst hF
    exact a_vret rfl (Nat.zero_le _) (Nat.zero_le _) dX11_sell_48 ⟨rfl, rfl⟩
theorem m_X11_sell {Z : ZE} {l : Launch} (hZ : OkM Z) {a1 : Int32} {a2 : Int32}  {s : St} {R : Unit × St} (hF : F_X11_sell (zg Z) a1 a2 s = some R) : Sp Z l yX11_sell iX11_sell [.ref (za Z 60 0), .int a1, .int a2] s (rU R) :=
  Sp.of (by decide) rfl (Nat.le_of_ble_eq_true rfl) (w_X11_sell hZ  s hF)
-- X11_live
set_option maxRecDepth 100000 in
set_option maxHeartbeats 4000000 in
theorem w_X11_live_304 {Z : ZE} {l : Launch} (hZ : OkM Z) {a1 : Int32}  {R : Unit × St}  (v2 : Int32)  (s : St) (hF : F_X11_live_304 (zg Z) a1 v2 s = some R) : AW Z l iX11_live (Pq (rU R)) 0 0 304 [(0, .ref (za Z 60 0)), (2, .int v2)] [] s := by
  unfold F_X11_live_304 at hF
  refine a_aload_n dX11_live_304 0 rfl rfl ?_
  refine a_getR hZ.1 (hZ.2 60 0 (by decide) (by decide) Nat.one_pos) fl_X11_91 rfl 0 rfl dX11_live_305 ?_
  refine a_iload_n dX11_live_308 1 rfl rfl ?_
  refine a_iconst (v := (3 : Int32)) dX11_live_309 (by decide) ?_
  refine a_iadd dX11_live_310 ?_
  obtain ⟨p1, hF⟩ := gd_some hF
  refine a_iald hZ.1 (s 84 0 (v2 + (3 : Int32)).toNatClampNeg) (hZ.2 84 0 (by decide) (by decide) Nat.one_pos) rfl rfl (inb_vp p1) rfl dX11_live_311 ?_
  refine a_if_ge 337 dX11_live_312 (by decide) (fun q2 => ?_) (fun q2 => ?_)
  · replace hF := (if_pos q2).symm.trans hF
    replace hF := Option.some.inj hF
    subst hF
    exact a_vret rfl (Nat.zero_le _) (Nat.zero_le _) dX11_live_337 ⟨rfl, rfl⟩
  · replace hF := (if_neg q2).symm.trans hF
    refine a_aload_n dX11_live_315 0 rfl rfl ?_
    refine a_getR hZ.1 (hZ.2 60 0 (by decide) (by decide) Nat.one_pos) fl_X11_91 rfl 0 rfl dX11_live_316 ?_
    refine a_iload_n dX11_live_319 1 rfl rfl ?_
    refine a_iconst (v := (3 : Int32)) dX11_live_320 (by decide) ?_
    refine a_iadd dX11_live_321 ?_
    refine a_iconst (v := (0 : Int32)) dX11_live_322 (by decide) ?_
    obtain ⟨p3, hF⟩ := gd_some hF
    refine a_iast hZ.1 (hZ.2 84 0 (by decide) (by decide) Nat.one_pos) rfl rfl (inb_vp p3) dX11_live_323 ?_
    refine a_aload_n dX11_live_324 0 rfl rfl ?_
    refine a_getR hZ.1 (hZ.2 60 0 (by decide) (by decide) Nat.one_pos) fl_X11_91 rfl 0 rfl dX11_live_325 ?_
    refine a_iload_n dX11_live_328 1 rfl rfl ?_
    refine a_bipush (v := (9 : Int32)) dX11_live_329 (by decide) ?_
    refine a_iadd dX11_live_331 ?_
    refine a_dup2 dX11_live_332 rfl rfl ?_
    obtain ⟨p4, hF⟩ := gd_some hF
    refine a_iald hZ.1 ((up s 84 0 (v2 + (3 : Int32)).toNatClampNeg (0 : Int32)) 84 0 (v2 + (9 : Int32)).toNatClampNeg) (hZ.2 84 0 (by decide) (by decide) Nat.one_pos) rfl rfl (inb_vp p4) rfl dX11_live_333 ?_
    refine a_iconst (v := (1 : Int32)) dX11_live_334 (by decide) ?_
    refine a_iadd dX11_live_335 ?_
    obtain ⟨p5, hF⟩ := gd_some hF
    refine a_iast hZ.1 (hZ.2 84 0 (by decide) (by decide) Nat.one_pos) rfl rfl (inb_vp p5) dX11_live_336 ?_
    replace hF := Option.some.inj hF
    subst hF
    exact a_vret rfl (Nat.zero_le _) (Nat.zero_le _) dX11_live_337 ⟨rfl, rfl⟩
set_option maxRecDepth 100000 in
set_option maxHeartbeats 4000000 in
theorem w_X11_live_285 {Z : ZE} {l : Launch} (hZ : OkM Z) {a1 : Int32}  {R : Unit × St} (h304_ : Int32 → St → Option (Unit × St)) (w304_ : ∀ (v2 : Int32)  (s : St), h304_ v2 s = some R → AW Z l iX11_live (Pq (rU R)) 0 0 304 [(0, .ref (za Z 60 0)), (2, .int v2)] [] s) : ∀ (n_ : Nat) (v2 : Int32) (v5 : Int32)  (s : St), F_X11_live_285 (zg Z) a1 h304_ n_ v2 v5 s = some R → AW Z l iX11_live (Pq (rU R)) 0 0 285 [(0, .ref (za Z 60 0)), (1, .int a1), (2, .int v2), (5, .int v5)] [] s := by
  intro n_
  induction n_ with
  | zero =>
    intro v2 v5 s hF
    exact absurd hF (by rw [F_X11_live_285]; exact fun q => by cases q)
  | succ n_ w285_ =>
    intro v2 v5 s hF
    rw [F_X11_live_285] at hF
    refine a_iload dX11_live_285 3 rfl ?_
    refine a_iconst (v := (4 : Int32)) dX11_live_287 (by decide) ?_
    refine a_icmp_ge 304 dX11_live_288 (by decide) (fun q1 => ?_) (fun q1 => ?_)
    · replace hF := (if_pos q1).symm.trans hF
      refine a_loc [(0, .ref (za Z 60 0)), (2, .int v2)] [0, 2] rfl ?_
      exact w304_ v2  _ hF
    · replace hF := (if_neg q1).symm.trans hF
      refine a_aload_n dX11_live_291 0 rfl rfl ?_
      refine a_iload_n dX11_live_292 1 rfl rfl ?_
      refine a_iload dX11_live_293 3 rfl ?_
      obtain ⟨r295, s295, e295, hF⟩ := bd_some hF
      refine a_invV hZ.1 (As := [.int a1, .int v5]) (rest := []) (hZ.2 60 0 (by decide) (by decide) Nat.one_pos) lk_X11_323 ⟨⟨by decide, by decide⟩, by decide, by decide⟩ rfl (Nat.le_of_ble_eq_true rfl) dX11_live_295 (m_X11_sell hZ  e295) ?_
      show AW Z l iX11_live (Pq (rU R)) 0 0 298 [(0, .ref (za Z 60 0)), (1, .int a1), (2, .int v2), (5, .int v5)] [] s295
      refine a_iinc [(5, .int (v5 + 1)), (0, .ref (za Z 60 0)), (1, .int a1), (2, .int v2)] dX11_live_298 3 rfl rfl (by decide) rfl ?_
      refine a_goto 285 dX11_live_301 (by decide) ?_
      refine a_loc [(0, .ref (za Z 60 0)), (1, .int a1), (2, .int v2), (5, .int (v5 + 1))] [1, 2, 3, 0] rfl ?_
      exact w285_ v2 (v5 + 1)  _ hF
set_option maxRecDepth 100000 in
set_option maxHeartbeats 4000000 in
theorem w_X11_live_282 {Z : ZE} {l : Launch} (hZ : OkM Z) {a1 : Int32}  {R : Unit × St}  (v2 : Int32)  (s : St) (hF : F_X11_live_282 (zg Z) a1 v2 s = some R) : AW Z l iX11_live (Pq (rU R)) 0 0 282 [(0, .ref (za Z 60 0)), (1, .int a1), (2, .int v2)] [] s := by
  unfold F_X11_live_282 at hF
  refine a_iconst (v := (0 : Int32)) dX11_live_282 (by decide) ?_
  refine a_istore [(5, .int (0 : Int32)), (0, .ref (za Z 60 0)), (1, .int a1), (2, .int v2)] dX11_live_283 (by decide) rfl ?_
  refine a_loc [(0, .ref (za Z 60 0)), (1, .int a1), (2, .int v2), (5, .int (0 : Int32))] [1, 2, 3, 0] rfl ?_
  exact w_X11_live_285 (l := l) hZ  (F_X11_live_304 (zg Z) a1 ) (w_X11_live_304 (l := l) hZ  ) fu v2 (0 : Int32)  _ hF
set_option maxRecDepth 100000 in
set_option maxHeartbeats 4000000 in
theorem w_X11_live_255 {Z : ZE} {l : Launch} (hZ : OkM Z) {a1 : Int32}  {R : Unit × St} (h282_ : Int32 → St → Option (Unit × St)) (w282_ : ∀ (v2 : Int32)  (s : St), h282_ v2 s = some R → AW Z l iX11_live (Pq (rU R)) 0 0 282 [(0, .ref (za Z 60 0)), (1, .int a1), (2, .int v2)] [] s) : ∀ (n_ : Nat) (v2 : Int32) (v5 : Int32)  (s : St), F_X11_live_255 (zg Z) a1 h282_ n_ v2 v5 s = some R → AW Z l iX11_live (Pq (rU R)) 0 0 255 [(0, .ref (za Z 60 0)), (1, .int a1), (2, .int v2), (5, .int v5)] [] s := by
  intro n_
  induction n_ with
  | zero =>
    intro v2 v5 s hF
    exact absurd hF (by rw [F_X11_live_255]; exact fun q => by cases q)
  | succ n_ w255_ =>
    intro v2 v5 s hF
    rw [F_X11_live_255] at hF
    refine a_iload dX11_live_255 3 rfl ?_
    refine a_aload_n dX11_live_257 0 rfl rfl ?_
    refine a_getI hZ.1 (s 60 0 40) (hZ.2 60 0 (by decide) (by decide) Nat.one_pos) fl_X11_302 rfl rfl dX11_live_258 ?_
    refine a_icmp_ge 282 dX11_live_261 (by decide) (fun q1 => ?_) (fun q1 => ?_)
    · replace hF := (if_pos q1).symm.trans hF
      refine a_loc [(0, .ref (za Z 60 0)), (1, .int a1), (2, .int v2)] [0, 1, 2] rfl ?_
      exact w282_ v2  _ hF
    · replace hF := (if_neg q1).symm.trans hF
      refine a_aload_n dX11_live_264 0 rfl rfl ?_
      refine a_iload_n dX11_live_265 1 rfl rfl ?_
      refine a_aload_n dX11_live_266 0 rfl rfl ?_
      refine a_getR hZ.1 (hZ.2 60 0 (by decide) (by decide) Nat.one_pos) fl_X11_88 rfl 0 rfl dX11_live_267 ?_
      refine a_iload dX11_live_270 3 rfl ?_
      obtain ⟨p2, hF⟩ := gd_some hF
      refine a_iald hZ.1 (s 83 0 v5.toNatClampNeg) (hZ.2 83 0 (by decide) (by decide) Nat.one_pos) rfl rfl (inb_vp p2) rfl dX11_live_272 ?_
      obtain ⟨r273, s273, e273, hF⟩ := bd_some hF
      refine a_invV hZ.1 (As := [.int a1, .int (s 83 0 v5.toNatClampNeg)]) (rest := []) (hZ.2 60 0 (by decide) (by decide) Nat.one_pos) lk_X11_323 ⟨⟨by decide, by decide⟩, by decide, by decide⟩ rfl (Nat.le_of_ble_eq_true rfl) dX11_live_273 (m_X11_sell hZ  e273) ?_
      show AW Z l iX11_live (Pq (rU R)) 0 0 276 [(0, .ref (za Z 60 0)), (1, .int a1), (2, .int v2), (5, .int v5)] [] s273
      refine a_iinc [(5, .int (v5 + 1)), (0, .ref (za Z 60 0)), (1, .int a1), (2, .int v2)] dX11_live_276 3 rfl rfl (by decide) rfl ?_
      refine a_goto 255 dX11_live_279 (by decide) ?_
      refine a_loc [(0, .ref (za Z 60 0)), (1, .int a1), (2, .int v2), (5, .int (v5 + 1))] [1, 2, 3, 0] rfl ?_
      exact w255_ v2 (v5 + 1)  _ hF
set_option maxRecDepth 100000 in
set_option maxHeartbeats 4000000 in
theorem w_X11_live_252 {Z : ZE} {l : Launch} (hZ : OkM Z) {a1 : Int32}  {R : Unit × St}  (v2 : Int32)  (s : St) (hF : F_X11_live_252 (zg Z) a1 v2 s = some R) : AW Z l iX11_live (Pq (rU R)) 0 0 252 [(0, .ref (za Z 60 0)), (1, .int a1), (2, .int v2)] [] s := by
  unfold F_X11_live_252 at hF
  refine a_iconst (v := (0 : Int32)) dX11_live_252 (by decide) ?_
  refine a_istore [(5, .int (0 : Int32)), (0, .ref (za Z 60 0)), (1, .int a1), (2, .int v2)] dX11_live_253 (by decide) rfl ?_
  refine a_loc [(0, .ref (za Z 60 0)), (1, .int a1), (2, .int v2), (5, .int (0 : Int32))] [1, 2, 3, 0] rfl ?_
  exact w_X11_live_255 (l := l) hZ  (F_X11_live_282 (zg Z) a1 ) (w_X11_live_282 (l := l) hZ  ) fu v2 (0 : Int32)  _ hF
set_option maxRecDepth 100000 in
set_option maxHeartbeats 4000000 in
theorem w_X11_live_223 {Z : ZE} {l : Launch} (hZ : OkM Z) {a1 : Int32}  {R : Unit × St}  (v2 : Int32) (x0 : Int32)  (s : St) (hF : F_X11_live_223 (zg Z) a1 v2 x0 s = some R) : AW Z l iX11_live (Pq (rU R)) 0 0 223 [(0, .ref (za Z 60 0)), (1, .int a1), (2, .int v2)] [.int x0] s := by
  unfold F_X11_live_223 at hF
  refine a_istore [(6, .int x0), (0, .ref (za Z 60 0)), (1, .int a1), (2, .int v2)] dX11_live_223 (by decide) rfl ?_
  refine a_aload_n dX11_live_225 1 rfl rfl ?_
  refine a_getR hZ.1 (hZ.2 60 0 (by decide) (by decide) Nat.one_pos) fl_X11_91 rfl 0 rfl dX11_live_226 ?_
  refine a_iload_n dX11_live_229 3 rfl rfl ?_
  refine a_iconst (v := (3 : Int32)) dX11_live_230 (by decide) ?_
  refine a_iadd dX11_live_231 ?_
  refine a_dup2 dX11_live_232 rfl rfl ?_
  obtain ⟨p1, hF⟩ := gd_some hF
  refine a_iald hZ.1 (s 84 0 (v2 + (3 : Int32)).toNatClampNeg) (hZ.2 84 0 (by decide) (by decide) Nat.one_pos) rfl rfl (inb_vp p1) rfl dX11_live_233 ?_
  refine a_iload dX11_live_234 0 rfl ?_
  refine a_iadd dX11_live_236 ?_
  obtain ⟨p2, hF⟩ := gd_some hF
  refine a_iast hZ.1 (hZ.2 84 0 (by decide) (by decide) Nat.one_pos) rfl rfl (inb_vp p2) dX11_live_237 ?_
  refine a_aload_n dX11_live_238 1 rfl rfl ?_
  refine a_getR hZ.1 (hZ.2 60 0 (by decide) (by decide) Nat.one_pos) fl_X11_91 rfl 0 rfl dX11_live_239 ?_
  refine a_iload_n dX11_live_242 3 rfl rfl ?_
  refine a_bipush (v := (10 : Int32)) dX11_live_243 (by decide) ?_
  refine a_iadd dX11_live_245 ?_
  refine a_dup2 dX11_live_246 rfl rfl ?_
  obtain ⟨p3, hF⟩ := gd_some hF
  refine a_iald hZ.1 ((up s 84 0 (v2 + (3 : Int32)).toNatClampNeg ((s 84 0 (v2 + (3 : Int32)).toNatClampNeg) + x0)) 84 0 (v2 + (10 : Int32)).toNatClampNeg) (hZ.2 84 0 (by decide) (by decide) Nat.one_pos) rfl rfl (inb_vp p3) rfl dX11_live_247 ?_
  refine a_iload dX11_live_248 0 rfl ?_
  refine a_iadd dX11_live_250 ?_
  obtain ⟨p4, hF⟩ := gd_some hF
  refine a_iast hZ.1 (hZ.2 84 0 (by decide) (by decide) Nat.one_pos) rfl rfl (inb_vp p4) dX11_live_251 ?_
  refine a_loc [(0, .ref (za Z 60 0)), (1, .int a1), (2, .int v2)] [1, 2, 3] rfl ?_
  exact w_X11_live_252 (l := l) hZ   v2  _ hF
set_option maxRecDepth 100000 in
set_option maxHeartbeats 4000000 in
theorem w_X11_live_185 {Z : ZE} {l : Launch} (hZ : OkM Z) {a1 : Int32}  {R : Unit × St}  (v2 : Int32) (v5 : Int32)  (s : St) (hF : F_X11_live_185 (zg Z) a1 v2 v5 s = some R) : AW Z l iX11_live (Pq (rU R)) 0 0 185 [(0, .ref (za Z 60 0)), (1, .int a1), (2, .int v2), (5, .int v5)] [] s := by
  unfold F_X11_live_185 at hF
  refine a_iload dX11_live_185 3 rfl ?_
  refine a_aload_n dX11_live_187 0 rfl rfl ?_
  refine a_aload_n dX11_live_188 0 rfl rfl ?_
  refine a_getI hZ.1 (s 60 0 10) (hZ.2 60 0 (by decide) (by decide) Nat.one_pos) fl_X11_188 rfl rfl dX11_live_189 ?_
  refine a_iconst (v := (2 : Int32)) dX11_live_192 (by decide) ?_
  refine a_iconst (v := (0 : Int32)) dX11_live_193 (by decide) ?_
  obtain ⟨r194, s194, e194, hF⟩ := bd_some hF
  refine a_invV hZ.1 (As := [.int (s 60 0 10), .int (2 : Int32), .int (0 : Int32)]) (rest := [.int v5]) (hZ.2 60 0 (by decide) (by decide) Nat.one_pos) lk_X11_298 ⟨⟨by decide, by decide⟩, by decide, by decide⟩ rfl (Nat.le_of_ble_eq_true rfl) dX11_live_194 (m_X11_numberFor hZ  e194) ?_
  show AW Z l iX11_live (Pq (rU R)) 0 0 197 [(0, .ref (za Z 60 0)), (1, .int a1), (2, .int v2), (5, .int v5)] [.int r194, .int v5] s194
  refine a_icmp_gt 222 dX11_live_197 (by decide) (fun q1 => ?_) (fun q1 => ?_)
  · replace hF := (if_pos q1).symm.trans hF
    refine a_iconst (v := (0 : Int32)) dX11_live_222 (by decide) ?_
    refine a_loc [(0, .ref (za Z 60 0)), (1, .int a1), (2, .int v2)] [0, 1, 2] rfl ?_
    exact w_X11_live_223 (l := l) hZ   v2 (0 : Int32)  _ hF
  · replace hF := (if_neg q1).symm.trans hF
    refine a_aload_n dX11_live_200 0 rfl rfl ?_
    refine a_aload_n dX11_live_201 0 rfl rfl ?_
    refine a_getI hZ.1 (s194 60 0 10) (hZ.2 60 0 (by decide) (by decide) Nat.one_pos) fl_X11_188 rfl rfl dX11_live_202 ?_
    refine a_iconst (v := (1 : Int32)) dX11_live_205 (by decide) ?_
    refine a_iconst (v := (0 : Int32)) dX11_live_206 (by decide) ?_
    obtain ⟨r207, s207, e207, hF⟩ := bd_some hF
    refine a_invV hZ.1 (As := [.int (s194 60 0 10), .int (1 : Int32), .int (0 : Int32)]) (rest := []) (hZ.2 60 0 (by decide) (by decide) Nat.one_pos) lk_X11_298 ⟨⟨by decide, by decide⟩, by decide, by decide⟩ rfl (Nat.le_of_ble_eq_true rfl) dX11_live_207 (m_X11_numberFor hZ  e207) ?_
    show AW Z l iX11_live (Pq (rU R)) 0 0 210 [(0, .ref (za Z 60 0)), (1, .int a1), (2, .int v2), (5, .int v5)] [.int r207] s207
    refine a_aload_n dX11_live_210 0 rfl rfl ?_
    refine a_getR hZ.1 (hZ.2 60 0 (by decide) (by decide) Nat.one_pos) fl_X11_91 rfl 0 rfl dX11_live_211 ?_
    refine a_iload_n dX11_live_214 2 rfl rfl ?_
    refine a_iconst (v := (1 : Int32)) dX11_live_215 (by decide) ?_
    refine a_iadd dX11_live_216 ?_
    obtain ⟨p2, hF⟩ := gd_some hF
    refine a_iald hZ.1 (s207 84 0 (v2 + (1 : Int32)).toNatClampNeg) (hZ.2 84 0 (by decide) (by decide) Nat.one_pos) rfl rfl (inb_vp p2) rfl dX11_live_217 ?_
    refine a_imul dX11_live_218 ?_
    refine a_goto 223 dX11_live_219 (by decide) ?_
    refine a_loc [(0, .ref (za Z 60 0)), (1, .int a1), (2, .int v2)] [0, 1, 2] rfl ?_
    exact w_X11_live_223 (l := l) hZ   v2 (r207 * (s207 84 0 (v2 + (1 : Int32)).toNatClampNeg))  _ hF
set_option maxRecDepth 100000 in
set_option maxHeartbeats 4000000 in
theorem w_X11_live_176 {Z : ZE} {l : Launch} (hZ : OkM Z) {a1 : Int32}  {R : Unit × St} (h143_ : Int32 → Int32 → Int32 → Int32 → St → Option (Unit × St)) (w143_ : ∀ (v2 : Int32) (v3 : Int32) (v5 : Int32) (v6 : Int32)  (s : St), h143_ v2 v3 v5 v6 s = some R → AW Z l iX11_live (Pq (rU R)) 0 0 143 [(0, .ref (za Z 60 0)), (1, .int a1), (2, .int v2), (3, .int v3), (5, .int v5), (6, .int v6)] [] s) (h185_ : Int32 → Int32 → St → Option (Unit × St)) (w185_ : ∀ (v2 : Int32) (v5 : Int32)  (s : St), h185_ v2 v5 s = some R → AW Z l iX11_live (Pq (rU R)) 0 0 185 [(0, .ref (za Z 60 0)), (1, .int a1), (2, .int v2), (5, .int v5)] [] s) (v2 : Int32) (v3 : Int32) (v6 : Int32) (x0 : Int32) (x1 : Int32)  (s : St) (hF : F_X11_live_176 (zg Z) a1 h143_ h185_ v2 v3 v6 x0 x1 s = some R) : AW Z l iX11_live (Pq (rU R)) 0 0 176 [(0, .ref (za Z 60 0)), (1, .int a1), (2, .int v2), (3, .int v3), (6, .int v6)] [.int x1, .int x0] s := by
  unfold F_X11_live_176 at hF
  refine a_iadd dX11_live_176 ?_
  refine a_istore [(5, .int (x0 + x1)), (0, .ref (za Z 60 0)), (1, .int a1), (2, .int v2), (3, .int v3), (6, .int v6)] dX11_live_177 (by decide) rfl ?_
  refine a_iinc [(6, .int (v6 + 1)), (5, .int (x0 + x1)), (0, .ref (za Z 60 0)), (1, .int a1), (2, .int v2), (3, .int v3)] dX11_live_179 5 rfl rfl (by decide) rfl ?_
  refine a_goto 143 dX11_live_182 (by decide) ?_
  refine a_loc [(0, .ref (za Z 60 0)), (1, .int a1), (2, .int v2), (3, .int v3), (5, .int (x0 + x1)), (6, .int (v6 + 1))] [2, 3, 4, 5, 1, 0] rfl ?_
  exact w143_ v2 v3 (x0 + x1) (v6 + 1)  _ hF
set_option maxRecDepth 100000 in
set_option maxHeartbeats 4000000 in
theorem w_X11_live_143 {Z : ZE} {l : Launch} (hZ : OkM Z) {a1 : Int32}  {R : Unit × St} (h185_ : Int32 → Int32 → St → Option (Unit × St)) (w185_ : ∀ (v2 : Int32) (v5 : Int32)  (s : St), h185_ v2 v5 s = some R → AW Z l iX11_live (Pq (rU R)) 0 0 185 [(0, .ref (za Z 60 0)), (1, .int a1), (2, .int v2), (5, .int v5)] [] s) : ∀ (n_ : Nat) (v2 : Int32) (v3 : Int32) (v5 : Int32) (v6 : Int32)  (s : St), F_X11_live_143 (zg Z) a1 h185_ n_ v2 v3 v5 v6 s = some R → AW Z l iX11_live (Pq (rU R)) 0 0 143 [(0, .ref (za Z 60 0)), (1, .int a1), (2, .int v2), (3, .int v3), (5, .int v5), (6, .int v6)] [] s := by
  intro n_
  induction n_ with
  | zero =>
    intro v2 v3 v5 v6 s hF
    exact absurd hF (by rw [F_X11_live_143]; exact fun q => by cases q)
  | succ n_ w143_ =>
    intro v2 v3 v5 v6 s hF
    rw [F_X11_live_143] at hF
    refine a_iload dX11_live_143 5 rfl ?_
    refine a_iconst (v := (4 : Int32)) dX11_live_145 (by decide) ?_
    refine a_icmp_ge 185 dX11_live_146 (by decide) (fun q1 => ?_) (fun q1 => ?_)
    · replace hF := (if_pos q1).symm.trans hF
      refine a_loc [(0, .ref (za Z 60 0)), (1, .int a1), (2, .int v2), (5, .int v5)] [0, 1, 2, 4] rfl ?_
      exact w185_ v2 v5  _ hF
    · replace hF := (if_neg q1).symm.trans hF
      refine a_iload dX11_live_149 4 rfl ?_
      refine a_iload_n dX11_live_151 3 rfl rfl ?_
      refine a_iload dX11_live_152 5 rfl ?_
      refine a_ishr dX11_live_154 ?_
      refine a_iconst (v := (1 : Int32)) dX11_live_155 (by decide) ?_
      refine a_iand dX11_live_156 ?_
      refine a_iconst (v := (1 : Int32)) dX11_live_157 (by decide) ?_
      refine a_icmp_ne 175 dX11_live_158 (by decide) (fun q2 => ?_) (fun q2 => ?_)
      · replace hF := (if_neg q2).symm.trans hF
        refine a_iconst (v := (0 : Int32)) dX11_live_175 (by decide) ?_
        refine a_loc [(0, .ref (za Z 60 0)), (1, .int a1), (2, .int v2), (3, .int v3), (6, .int v6)] [0, 1, 2, 3, 5] rfl ?_
        exact w_X11_live_176 (l := l) hZ  (F_X11_live_143 (zg Z) a1 h185_ n_) w143_ h185_ w185_ v2 v3 v6 v5 (0 : Int32)  _ hF
      · replace hF := (if_pos q2).symm.trans hF
        refine a_aload_n dX11_live_161 0 rfl rfl ?_
        refine a_getR hZ.1 (hZ.2 60 0 (by decide) (by decide) Nat.one_pos) fl_X11_91 rfl 0 rfl dX11_live_162 ?_
        refine a_iload_n dX11_live_165 2 rfl rfl ?_
        refine a_iconst (v := (5 : Int32)) dX11_live_166 (by decide) ?_
        refine a_iadd dX11_live_167 ?_
        refine a_iload dX11_live_168 5 rfl ?_
        refine a_iadd dX11_live_170 ?_
        obtain ⟨p3, hF⟩ := gd_some hF
        refine a_iald hZ.1 (s 84 0 ((v2 + (5 : Int32)) + v6).toNatClampNeg) (hZ.2 84 0 (by decide) (by decide) Nat.one_pos) rfl rfl (inb_vp p3) rfl dX11_live_171 ?_
        refine a_goto 176 dX11_live_172 (by decide) ?_
        refine a_loc [(0, .ref (za Z 60 0)), (1, .int a1), (2, .int v2), (3, .int v3), (6, .int v6)] [0, 1, 2, 3, 5] rfl ?_
        exact w_X11_live_176 (l := l) hZ  (F_X11_live_143 (zg Z) a1 h185_ n_) w143_ h185_ w185_ v2 v3 v6 v5 (s 84 0 ((v2 + (5 : Int32)) + v6).toNatClampNeg)  _ hF
set_option maxRecDepth 100000 in
set_option maxHeartbeats 4000000 in
theorem w_X11_live_92 {Z : ZE} {l : Launch} (hZ : OkM Z) {a1 : Int32}  {R : Unit × St}  (v2 : Int32) (v3 : Int32) (v4 : Int32) (x1 : Int32) (x2 : Int32) (x3 : Int32)  (s : St) (hF : F_X11_live_92 (zg Z) a1 v2 v3 v4 x1 x2 x3 s = some R) : AW Z l iX11_live (Pq (rU R)) 0 0 92 [(0, .ref (za Z 60 0)), (1, .int a1), (2, .int v2), (3, .int v3), (4, .int v4)] [.int x3, .int x2, .int x1, .ref (za Z 84 0)] s := by
  unfold F_X11_live_92 at hF
  refine a_aload_n dX11_live_92 0 rfl rfl ?_
  refine a_getR hZ.1 (hZ.2 60 0 (by decide) (by decide) Nat.one_pos) fl_X11_91 rfl 0 rfl dX11_live_93 ?_
  refine a_iload_n dX11_live_96 2 rfl rfl ?_
  refine a_iconst (v := (1 : Int32)) dX11_live_97 (by decide) ?_
  refine a_iadd dX11_live_98 ?_
  obtain ⟨p1, hF⟩ := gd_some hF
  refine a_iald hZ.1 (s 84 0 (v2 + (1 : Int32)).toNatClampNeg) (hZ.2 84 0 (by decide) (by decide) Nat.one_pos) rfl rfl (inb_vp p1) rfl dX11_live_99 ?_
  refine a_aload_n dX11_live_100 0 rfl rfl ?_
  refine a_aload_n dX11_live_101 0 rfl rfl ?_
  refine a_getI hZ.1 (s 60 0 10) (hZ.2 60 0 (by decide) (by decide) Nat.one_pos) fl_X11_188 rfl rfl dX11_live_102 ?_
  refine a_iconst (v := (3 : Int32)) dX11_live_105 (by decide) ?_
  refine a_iconst (v := (0 : Int32)) dX11_live_106 (by decide) ?_
  obtain ⟨r107, s107, e107, hF⟩ := bd_some hF
  refine a_invV hZ.1 (As := [.int (s 60 0 10), .int (3 : Int32), .int (0 : Int32)]) (rest := [.int (s 84 0 (v2 + (1 : Int32)).toNatClampNeg), .int x3, .int x2, .int x1, .ref (za Z 84 0)]) (hZ.2 60 0 (by decide) (by decide) Nat.one_pos) lk_X11_298 ⟨⟨by decide, by decide⟩, by decide, by decide⟩ rfl (Nat.le_of_ble_eq_true rfl) dX11_live_107 (m_X11_numberFor hZ  e107) ?_
  show AW Z l iX11_live (Pq (rU R)) 0 0 110 [(0, .ref (za Z 60 0)), (1, .int a1), (2, .int v2), (3, .int v3), (4, .int v4)] [.int r107, .int (s 84 0 (v2 + (1 : Int32)).toNatClampNeg), .int x3, .int x2, .int x1, .ref (za Z 84 0)] s107
  refine a_imul dX11_live_110 ?_
  refine a_isub dX11_live_111 ?_
  refine a_aload_n dX11_live_112 0 rfl rfl ?_
  refine a_getR hZ.1 (hZ.2 60 0 (by decide) (by decide) Nat.one_pos) fl_X11_91 rfl 0 rfl dX11_live_113 ?_
  refine a_iload_n dX11_live_116 2 rfl rfl ?_
  refine a_iconst (v := (4 : Int32)) dX11_live_117 (by decide) ?_
  refine a_iadd dX11_live_118 ?_
  obtain ⟨p2, hF⟩ := gd_some hF
  refine a_iald hZ.1 (s107 84 0 (v2 + (4 : Int32)).toNatClampNeg) (hZ.2 84 0 (by decide) (by decide) Nat.one_pos) rfl rfl (inb_vp p2) rfl dX11_live_119 ?_
  refine a_isub dX11_live_120 ?_
  refine a_iadd dX11_live_121 ?_
  obtain ⟨p3, hF⟩ := gd_some hF
  refine a_iast hZ.1 (hZ.2 84 0 (by decide) (by decide) Nat.one_pos) rfl rfl (inb_vp p3) dX11_live_122 ?_
  refine a_iload dX11_live_123 4 rfl ?_
  refine a_ldc (v := (-1000000)) kw_951 dX11_live_125 ?_
  refine a_icmp_ne 252 dX11_live_127 (by decide) (fun q4 => ?_) (fun q4 => ?_)
  · replace hF := (if_neg q4).symm.trans hF
    refine a_loc [(0, .ref (za Z 60 0)), (1, .int a1), (2, .int v2)] [0, 1, 2] rfl ?_
    exact w_X11_live_252 (l := l) hZ   v2  _ hF
  · replace hF := (if_pos q4).symm.trans hF
    refine a_aload_n dX11_live_130 0 rfl rfl ?_
    refine a_getR hZ.1 (hZ.2 60 0 (by decide) (by decide) Nat.one_pos) fl_X11_91 rfl 0 rfl dX11_live_131 ?_
    refine a_iload_n dX11_live_134 2 rfl rfl ?_
    refine a_iconst (v := (3 : Int32)) dX11_live_135 (by decide) ?_
    refine a_iadd dX11_live_136 ?_
    obtain ⟨p5, hF⟩ := gd_some hF
    refine a_iald hZ.1 ((up s107 84 0 x1.toNatClampNeg (x2 + ((x3 - ((s 84 0 (v2 + (1 : Int32)).toNatClampNeg) * r107)) - (s107 84 0 (v2 + (4 : Int32)).toNatClampNeg)))) 84 0 (v2 + (3 : Int32)).toNatClampNeg) (hZ.2 84 0 (by decide) (by decide) Nat.one_pos) rfl rfl (inb_vp p5) rfl dX11_live_137 ?_
    refine a_istore [(5, .int ((up s107 84 0 x1.toNatClampNeg (x2 + ((x3 - ((s 84 0 (v2 + (1 : Int32)).toNatClampNeg) * r107)) - (s107 84 0 (v2 + (4 : Int32)).toNatClampNeg)))) 84 0 (v2 + (3 : Int32)).toNatClampNeg)), (0, .ref (za Z 60 0)), (1, .int a1), (2, .int v2), (3, .int v3), (4, .int v4)] dX11_live_138 (by decide) rfl ?_
    refine a_iconst (v := (0 : Int32)) dX11_live_140 (by decide) ?_
    refine a_istore [(6, .int (0 : Int32)), (5, .int ((up s107 84 0 x1.toNatClampNeg (x2 + ((x3 - ((s 84 0 (v2 + (1 : Int32)).toNatClampNeg) * r107)) - (s107 84 0 (v2 + (4 : Int32)).toNatClampNeg)))) 84 0 (v2 + (3 : Int32)).toNatClampNeg)), (0, .ref (za Z 60 0)), (1, .int a1), (2, .int v2), (3, .int v3), (4, .int v4)] dX11_live_141 (by decide) rfl ?_
    refine a_loc [(0, .ref (za Z 60 0)), (1, .int a1), (2, .int v2), (3, .int v3), (5, .int ((up s107 84 0 x1.toNatClampNeg (x2 + ((x3 - ((s 84 0 (v2 + (1 : Int32)).toNatClampNeg) * r107)) - (s107 84 0 (v2 + (4 : Int32)).toNatClampNeg)))) 84 0 (v2 + (3 : Int32)).toNatClampNeg)), (6, .int (0 : Int32))] [2, 3, 4, 5, 1, 0] rfl ?_
    exact w_X11_live_143 (l := l) hZ  (F_X11_live_185 (zg Z) a1 ) (w_X11_live_185 (l := l) hZ  ) fu v2 v3 ((up s107 84 0 x1.toNatClampNeg (x2 + ((x3 - ((s 84 0 (v2 + (1 : Int32)).toNatClampNeg) * r107)) - (s107 84 0 (v2 + (4 : Int32)).toNatClampNeg)))) 84 0 (v2 + (3 : Int32)).toNatClampNeg) (0 : Int32)  _ hF
set_option maxRecDepth 100000 in
set_option maxHeartbeats 4000000 in
theorem w_X11_live_51 {Z : ZE} {l : Launch} (hZ : OkM Z) {a1 : Int32}  {R : Unit × St}  (v2 : Int32) (v3 : Int32) (x0 : Int32)  (s : St) (hF : F_X11_live_51 (zg Z) a1 v2 v3 x0 s = some R) : AW Z l iX11_live (Pq (rU R)) 0 0 51 [(0, .ref (za Z 60 0)), (1, .int a1), (2, .int v2), (3, .int v3)] [.int x0] s := by
  unfold F_X11_live_51 at hF
  refine a_istore [(4, .int x0), (0, .ref (za Z 60 0)), (1, .int a1), (2, .int v2), (3, .int v3)] dX11_live_51 (by decide) rfl ?_
  refine a_aload_n dX11_live_53 1 rfl rfl ?_
  refine a_getR hZ.1 (hZ.2 60 0 (by decide) (by decide) Nat.one_pos) fl_X11_91 rfl 0 rfl dX11_live_54 ?_
  refine a_iload_n dX11_live_57 3 rfl rfl ?_
  refine a_iconst (v := (3 : Int32)) dX11_live_58 (by decide) ?_
  refine a_iadd dX11_live_59 ?_
  refine a_dup2 dX11_live_60 rfl rfl ?_
  obtain ⟨p1, hF⟩ := gd_some hF
  refine a_iald hZ.1 (s 84 0 (v2 + (3 : Int32)).toNatClampNeg) (hZ.2 84 0 (by decide) (by decide) Nat.one_pos) rfl rfl (inb_vp p1) rfl dX11_live_61 ?_
  refine a_iload dX11_live_62 0 rfl ?_
  refine a_ldc (v := (-1000000)) kw_951 dX11_live_64 ?_
  refine a_icmp_ne 73 dX11_live_66 (by decide) (fun q2 => ?_) (fun q2 => ?_)
  · replace hF := (if_neg q2).symm.trans hF
    refine a_aload_n dX11_live_73 1 rfl rfl ?_
    refine a_getR hZ.1 (hZ.2 60 0 (by decide) (by decide) Nat.one_pos) fl_X11_91 rfl 0 rfl dX11_live_74 ?_
    refine a_iload_n dX11_live_77 3 rfl rfl ?_
    refine a_iconst (v := (2 : Int32)) dX11_live_78 (by decide) ?_
    refine a_iadd dX11_live_79 ?_
    obtain ⟨p3, hF⟩ := gd_some hF
    refine a_iald hZ.1 (s 84 0 (v2 + (2 : Int32)).toNatClampNeg) (hZ.2 84 0 (by decide) (by decide) Nat.one_pos) rfl rfl (inb_vp p3) rfl dX11_live_80 ?_
    refine a_aload_n dX11_live_81 1 rfl rfl ?_
    refine a_iload dX11_live_82 0 rfl ?_
    refine a_aload_n dX11_live_84 1 rfl rfl ?_
    refine a_getI hZ.1 (s 60 0 10) (hZ.2 60 0 (by decide) (by decide) Nat.one_pos) fl_X11_188 rfl rfl dX11_live_85 ?_
    obtain ⟨r88, s88, e88, hF⟩ := bd_some hF
    refine a_invV hZ.1 (As := [.int x0, .int (s 60 0 10)]) (rest := [.int (s 84 0 (v2 + (2 : Int32)).toNatClampNeg), .int (s 84 0 (v2 + (3 : Int32)).toNatClampNeg), .int (v2 + (3 : Int32)), .ref (za Z 84 0)]) (hZ.2 60 0 (by decide) (by decide) Nat.one_pos) lk_X11_312 ⟨⟨by decide, by decide⟩, by decide, by decide⟩ rfl (Nat.le_of_ble_eq_true rfl) dX11_live_88 (m_X11_earnOn hZ  e88) ?_
    show AW Z l iX11_live (Pq (rU R)) 0 0 91 [(4, .int x0), (0, .ref (za Z 60 0)), (1, .int a1), (2, .int v2), (3, .int v3)] [.int r88, .int (s 84 0 (v2 + (2 : Int32)).toNatClampNeg), .int (s 84 0 (v2 + (3 : Int32)).toNatClampNeg), .int (v2 + (3 : Int32)), .ref (za Z 84 0)] s88
    refine a_imul dX11_live_91 ?_
    refine a_loc [(0, .ref (za Z 60 0)), (1, .int a1), (2, .int v2), (3, .int v3), (4, .int x0)] [1, 2, 3, 4, 0] rfl ?_
    exact w_X11_live_92 (l := l) hZ   v2 v3 x0 (v2 + (3 : Int32)) (s 84 0 (v2 + (3 : Int32)).toNatClampNeg) ((s 84 0 (v2 + (2 : Int32)).toNatClampNeg) * r88)  _ hF
  · replace hF := (if_pos q2).symm.trans hF
    refine a_iconst (v := (0 : Int32)) dX11_live_69 (by decide) ?_
    refine a_goto 92 dX11_live_70 (by decide) ?_
    refine a_loc [(0, .ref (za Z 60 0)), (1, .int a1), (2, .int v2), (3, .int v3), (4, .int x0)] [1, 2, 3, 4, 0] rfl ?_
    exact w_X11_live_92 (l := l) hZ   v2 v3 x0 (v2 + (3 : Int32)) (s 84 0 (v2 + (3 : Int32)).toNatClampNeg) (0 : Int32)  _ hF
set_option maxRecDepth 100000 in
set_option maxHeartbeats 4000000 in
theorem w_X11_live {Z : ZE} {l : Launch} (hZ : OkM Z) {a1 : Int32}  {R : Unit × St}    (s : St) (hF : F_X11_live (zg Z) a1  s = some R) : AW Z l iX11_live (Pq (rU R)) 0 0 0 [(0, .ref (za Z 60 0)), (1, .int a1)] [] s := by
  unfold F_X11_live at hF
  refine a_bipush (v := (11 : Int32)) dX11_live_0 (by decide) ?_
  refine a_iload_n dX11_live_2 1 rfl rfl ?_
  refine a_imul dX11_live_3 ?_
  refine a_istore_n [(2, .int ((11 : Int32) * a1)), (0, .ref (za Z 60 0)), (1, .int a1)] dX11_live_4 rfl (by decide) rfl ?_
  refine a_aload_n dX11_live_5 1 rfl rfl ?_
  refine a_aload_n dX11_live_6 1 rfl rfl ?_
  refine a_getI hZ.1 (s 60 0 10) (hZ.2 60 0 (by decide) (by decide) Nat.one_pos) fl_X11_188 rfl rfl dX11_live_7 ?_
  obtain ⟨r10, s10, e10, hF⟩ := bd_some hF
  refine a_invV hZ.1 (As := [.int (s 60 0 10)]) (rest := []) (hZ.2 60 0 (by decide) (by decide) Nat.one_pos) lk_X11_305 ⟨⟨by decide, by decide⟩, by decide, by decide⟩ rfl (Nat.le_of_ble_eq_true rfl) dX11_live_10 (m_X11_findFirst hZ  e10) ?_
  show AW Z l iX11_live (Pq (rU R)) 0 0 13 [(2, .int ((11 : Int32) * a1)), (0, .ref (za Z 60 0)), (1, .int a1)] [.int r10] s10
  refine a_istore_n [(3, .int r10), (2, .int ((11 : Int32) * a1)), (0, .ref (za Z 60 0)), (1, .int a1)] dX11_live_13 rfl (by decide) rfl ?_
  refine a_aload_n dX11_live_14 2 rfl rfl ?_
  refine a_getR hZ.1 (hZ.2 60 0 (by decide) (by decide) Nat.one_pos) fl_X11_91 rfl 0 rfl dX11_live_15 ?_
  refine a_iload_n dX11_live_18 1 rfl rfl ?_
  obtain ⟨p1, hF⟩ := gd_some hF
  refine a_iald hZ.1 (s10 84 0 ((11 : Int32) * a1).toNatClampNeg) (hZ.2 84 0 (by decide) (by decide) Nat.one_pos) rfl rfl (inb_vp p1) rfl dX11_live_19 ?_
  refine a_aload_n dX11_live_20 2 rfl rfl ?_
  refine a_getI hZ.1 (s10 60 0 15) (hZ.2 60 0 (by decide) (by decide) Nat.one_pos) fl_X11_145 rfl rfl dX11_live_21 ?_
  refine a_icmp_ge 49 dX11_live_24 (by decide) (fun q2 => ?_) (fun q2 => ?_)
  · replace hF := (if_pos q2).symm.trans hF
    refine a_ldc (v := (-1000000)) kw_951 dX11_live_49 ?_
    refine a_loc [(0, .ref (za Z 60 0)), (1, .int a1), (2, .int ((11 : Int32) * a1)), (3, .int r10)] [2, 3, 1, 0] rfl ?_
    exact w_X11_live_51 (l := l) hZ   ((11 : Int32) * a1) r10 (-1000000)  _ hF
  · replace hF := (if_neg q2).symm.trans hF
    refine a_aload_n dX11_live_27 2 rfl rfl ?_
    refine a_getR hZ.1 (hZ.2 60 0 (by decide) (by decide) Nat.one_pos) fl_X11_66 rfl 0 rfl dX11_live_28 ?_
    refine a_bipush (v := (100 : Int32)) dX11_live_31 (by decide) ?_
    refine a_aload_n dX11_live_33 2 rfl rfl ?_
    refine a_getR hZ.1 (hZ.2 60 0 (by decide) (by decide) Nat.one_pos) fl_X11_91 rfl 0 rfl dX11_live_34 ?_
    refine a_iload_n dX11_live_37 1 rfl rfl ?_
    obtain ⟨p3, hF⟩ := gd_some hF
    refine a_iald hZ.1 (s10 84 0 ((11 : Int32) * a1).toNatClampNeg) (hZ.2 84 0 (by decide) (by decide) Nat.one_pos) rfl rfl (inb_vp p3) rfl dX11_live_38 ?_
    refine a_imul dX11_live_39 ?_
    refine a_aload_n dX11_live_40 2 rfl rfl ?_
    refine a_getI hZ.1 (s10 60 0 10) (hZ.2 60 0 (by decide) (by decide) Nat.one_pos) fl_X11_188 rfl rfl dX11_live_41 ?_
    refine a_iadd dX11_live_44 ?_
    obtain ⟨p4, hF⟩ := gd_some hF
    refine a_iald hZ.1 (s10 76 0 (((100 : Int32) * (s10 84 0 ((11 : Int32) * a1).toNatClampNeg)) + (s10 60 0 10)).toNatClampNeg) (hZ.2 76 0 (by decide) (by decide) Nat.one_pos) rfl rfl (inb_vp p4) rfl dX11_live_45 ?_
    refine a_goto 51 dX11_live_46 (by decide) ?_
    refine a_loc [(0, .ref (za Z 60 0)), (1, .int a1), (2, .int ((11 : Int32) * a1)), (3, .int r10)] [2, 3, 1, 0] rfl ?_
    exact w_X11_live_51 (l := l) hZ   ((11 : Int32) * a1) r10 (s10 76 0 (((100 : Int32) * (s10 84 0 ((11 : Int32) * a1).toNatClampNeg)) + (s10 60 0 10)).toNatClampNeg)  _ hF
theorem m_X11_live {Z : ZE} {l : Launch} (hZ : OkM Z) {a1 : Int32}  {s : St} {R : Unit × St} (hF : F_X11_live (zg Z) a1 s = some R) : Sp Z l yX11_live iX11_live [.ref (za Z 60 0), .int a1] s (rU R) :=
  Sp.of (by decide) rfl (Nat.le_of_ble_eq_true rfl) (w_X11_live hZ  s hF)
