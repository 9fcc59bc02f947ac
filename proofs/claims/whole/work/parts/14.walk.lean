-- X10_told
def F_X10_told (g : Nat × Nat) (a1 : Int32) (a2 : Int32)   (s : St) : Option (Int32 × St) := (bd (F_X1_hasMill g a1 s) (fun r5 s5 => (if r5 = 0 then (some ((-1000001), s5)) else (bd (F_X10_within g a2 (0 : Int32) (9 : Int32) s5) (fun r15 s15 => (if r15 = 0 then (some ((-1000001), s15)) else (gd (inb a1 6) (gd (ltb a1 g.1) (bd (F_X4_tells g a1.toNatClampNeg a2 s15) (fun r34 s34 => (some (r34, s34))))))))))))
set_option maxRecDepth 100000 in
set_option maxHeartbeats 4000000 in
theorem w_X10_told {Z : ZE} {l : Launch} (hZ : OkX Z) {a1 : Int32} {a2 : Int32}  {R : Int32 × St}    (s : St) (hF : F_X10_told (zg Z) a1 a2  s = some R) : AW Z l iX10_told (Pq (rI R)) 0 0 0 [(0, .ref (za Z 0 0)), (1, .int a1), (2, .int a2)] [] s := by
  unfold F_X10_told at hF
  refine a_aload_n dX10_told_0 0 rfl rfl ?_
  refine a_getR hZ.1 (hZ.2 0 0 (by decide) Nat.one_pos) fl_X10_18 rfl 0 rfl dX10_told_1 ?_
  refine a_iload_n dX10_told_4 1 rfl rfl ?_
  obtain ⟨r5, s5, e5, hF⟩ := bd_some hF
  refine a_invV hZ.1 (As := [.int a1]) (rest := []) (hZ.2 4 0 (by decide) Nat.one_pos) lk_X10_155 ⟨⟨by decide, by decide⟩, by decide, by decide⟩ rfl (Nat.le_of_ble_eq_true rfl) dX10_told_5 (m_X1_hasMill hZ  e5) ?_
  show AW Z l iX10_told (Pq (rI R)) 0 0 8 [(0, .ref (za Z 0 0)), (1, .int a1), (2, .int a2)] [.int r5] s5
  refine a_if_eq 21 dX10_told_8 (by decide) (fun c1 => ?_) (fun c1 => ?_)
  · replace hF := (if_pos c1).symm.trans hF
    refine a_ldc (v := (-1000001)) kw_324 dX10_told_21 ?_
    cases hF
    exact a_iret rfl (Nat.zero_le _) (Nat.zero_le _) dX10_told_23 ⟨rfl, rfl⟩
  · replace hF := (if_neg c1).symm.trans hF
    refine a_iload_n dX10_told_11 2 rfl rfl ?_
    refine a_iconst (v := (0 : Int32)) dX10_told_12 (by decide) ?_
    refine a_bipush (v := (9 : Int32)) dX10_told_13 (by decide) ?_
    obtain ⟨r15, s15, e15, hF⟩ := bd_some hF
    refine a_invS hZ.1 (As := [.int a2, .int (0 : Int32), .int (9 : Int32)]) (rest := []) lk_X10_75 ⟨⟨by decide, by decide⟩, by decide, by decide⟩ rfl (Nat.le_of_ble_eq_true rfl) dX10_told_15 (m_X10_within hZ  e15) ?_
    show AW Z l iX10_told (Pq (rI R)) 0 0 18 [(0, .ref (za Z 0 0)), (1, .int a1), (2, .int a2)] [.int r15] s15
    refine a_if_ne 24 dX10_told_18 (by decide) (fun c2 => ?_) (fun c2 => ?_)
    · replace hF := (if_neg c2).symm.trans hF
      refine a_aload_n dX10_told_24 0 rfl rfl ?_
      refine a_getR hZ.1 (hZ.2 0 0 (by decide) Nat.one_pos) fl_X10_18 rfl 0 rfl dX10_told_25 ?_
      refine a_getR hZ.1 (hZ.2 4 0 (by decide) Nat.one_pos) fl_X10_158 rfl 0 rfl dX10_told_28 ?_
      refine a_iload_n dX10_told_31 1 rfl rfl ?_
      obtain ⟨b3, hF⟩ := gd_some hF
      obtain ⟨b4, hF⟩ := gd_some hF
      refine a_aald hZ.1 (hZ.2 13 0 (by decide) Nat.one_pos) rfl rfl rfl rfl (inb_vp b3) (ltb_lt b4) dX10_told_32 ?_
      refine a_iload_n dX10_told_33 2 rfl rfl ?_
      obtain ⟨r34, s34, e34, hF⟩ := bd_some hF
      refine a_invV hZ.1 (As := [.int a2]) (rest := []) (hZ.2 14 a1.toNatClampNeg (by decide) (ltb_lt b4)) lk_X10_170 ⟨⟨by decide, by decide⟩, by decide, by decide⟩ rfl (Nat.le_of_ble_eq_true rfl) dX10_told_34 (m_X4_tells hZ (ltb_lt b4) e34) ?_
      show AW Z l iX10_told (Pq (rI R)) 0 0 37 [(0, .ref (za Z 0 0)), (1, .int a1), (2, .int a2)] [.int r34] s34
      cases hF
      exact a_iret rfl (Nat.zero_le _) (Nat.zero_le _) dX10_told_37 ⟨rfl, rfl⟩
    · replace hF := (if_pos c2).symm.trans hF
      refine a_ldc (v := (-1000001)) kw_324 dX10_told_21 ?_
      cases hF
      exact a_iret rfl (Nat.zero_le _) (Nat.zero_le _) dX10_told_23 ⟨rfl, rfl⟩
theorem m_X10_told {Z : ZE} {l : Launch} (hZ : OkX Z) {a1 : Int32} {a2 : Int32}  {s : St} {R : Int32 × St} (hF : F_X10_told (zg Z) a1 a2 s = some R) : Sp Z l yX10_told iX10_told [.ref (za Z 0 0), .int a1, .int a2] s (rI R) :=
  Sp.of (by decide) rfl (by decide) (w_X10_told hZ  s hF)
-- X10_trace
def F_X10_trace (g : Nat × Nat) (a1 : Int32)   (s : St) : Option (Int32 × St) := (bd (F_X10_within g a1 (0 : Int32) ((s 38 0 5) - (1 : Int32)) s) (fun r11 s11 => (if r11 = 0 then (some ((-1000000), s11)) else (gd (inb a1 16) (some ((s11 42 0 a1.toNatClampNeg), s11))))))
set_option maxRecDepth 100000 in
set_option maxHeartbeats 4000000 in
theorem w_X10_trace {Z : ZE} {l : Launch} (hZ : OkX Z) {a1 : Int32}  {R : Int32 × St}    (s : St) (hF : F_X10_trace (zg Z) a1  s = some R) : AW Z l iX10_trace (Pq (rI R)) 0 0 0 [(0, .ref (za Z 0 0)), (1, .int a1)] [] s := by
  unfold F_X10_trace at hF
  refine a_iload_n dX10_trace_0 1 rfl rfl ?_
  refine a_iconst (v := (0 : Int32)) dX10_trace_1 (by decide) ?_
  refine a_aload_n dX10_trace_2 0 rfl rfl ?_
  refine a_getR hZ.1 (hZ.2 0 0 (by decide) Nat.one_pos) fl_X10_59 rfl 0 rfl dX10_trace_3 ?_
  refine a_getI hZ.1 (s 38 0 5) (hZ.2 38 0 (by decide) Nat.one_pos) fl_X10_288 rfl rfl dX10_trace_6 ?_
  refine a_iconst (v := (1 : Int32)) dX10_trace_9 (by decide) ?_
  refine a_isub dX10_trace_10 ?_
  obtain ⟨r11, s11, e11, hF⟩ := bd_some hF
  refine a_invS hZ.1 (As := [.int a1, .int (0 : Int32), .int ((s 38 0 5) - (1 : Int32))]) (rest := []) lk_X10_75 ⟨⟨by decide, by decide⟩, by decide, by decide⟩ rfl (Nat.le_of_ble_eq_true rfl) dX10_trace_11 (m_X10_within hZ  e11) ?_
  show AW Z l iX10_trace (Pq (rI R)) 0 0 14 [(0, .ref (za Z 0 0)), (1, .int a1)] [.int r11] s11
  refine a_if_eq 29 dX10_trace_14 (by decide) (fun c1 => ?_) (fun c1 => ?_)
  · replace hF := (if_pos c1).symm.trans hF
    refine a_ldc (v := (-1000000)) kw_553 dX10_trace_29 ?_
    cases hF
    exact a_iret rfl (Nat.zero_le _) (Nat.zero_le _) dX10_trace_31 ⟨rfl, rfl⟩
  · replace hF := (if_neg c1).symm.trans hF
    refine a_aload_n dX10_trace_17 0 rfl rfl ?_
    refine a_getR hZ.1 (hZ.2 0 0 (by decide) Nat.one_pos) fl_X10_59 rfl 0 rfl dX10_trace_18 ?_
    refine a_getR hZ.1 (hZ.2 38 0 (by decide) Nat.one_pos) fl_X10_291 rfl 0 rfl dX10_trace_21 ?_
    refine a_iload_n dX10_trace_24 1 rfl rfl ?_
    obtain ⟨b2, hF⟩ := gd_some hF
    refine a_iald hZ.1 (s11 42 0 a1.toNatClampNeg) (hZ.2 42 0 (by decide) Nat.one_pos) rfl rfl (inb_vp b2) rfl dX10_trace_25 ?_
    refine a_goto 31 dX10_trace_26 (by decide) ?_
    cases hF
    exact a_iret rfl (Nat.zero_le _) (Nat.zero_le _) dX10_trace_31 ⟨rfl, rfl⟩
theorem m_X10_trace {Z : ZE} {l : Launch} (hZ : OkX Z) {a1 : Int32}  {s : St} {R : Int32 × St} (hF : F_X10_trace (zg Z) a1 s = some R) : Sp Z l yX10_trace iX10_trace [.ref (za Z 0 0), .int a1] s (rI R) :=
  Sp.of (by decide) rfl (by decide) (w_X10_trace hZ  s hF)
-- X9_sumOf
def F_X9_sumOf_28 (g : Nat × Nat) (t0 : Nat) (k0 : Nat) (a1 : Int32) (a2 : Int32) (h5_ : Int32 → Int32 → St → Option (Int32 × St)) (v3 : Int32) (v4 : Int32) (s : St) : Option (Int32 × St) := (h5_ v3 (v4 + 1) s)
set_option maxRecDepth 100000 in
set_option maxHeartbeats 4000000 in
theorem w_X9_sumOf_28 {Z : ZE} {l : Launch} (hZ : OkX Z) {t0 : Nat} {k0 : Nat} {a1 : Int32} {a2 : Int32} (hx0 : zx Z t0 k0) (ho0 : shO t0 = none) (ha0 : shA t0 = some (lna t0)) {R : Int32 × St} (h5_ : Int32 → Int32 → St → Option (Int32 × St)) (w5_ : ∀ (v3 : Int32) (v4 : Int32)  (s : St), h5_ v3 v4 s = some R → AW Z l iX9_sumOf (Pq (rI R)) 0 0 5 [(0, .ref (za Z t0 k0)), (1, .int a1), (2, .int a2), (3, .int v3), (4, .int v4)] [] s) (v3 : Int32) (v4 : Int32)  (s : St) (hF : F_X9_sumOf_28 (zg Z) t0 k0 a1 a2 h5_ v3 v4 s = some R) : AW Z l iX9_sumOf (Pq (rI R)) 0 0 28 [(0, .ref (za Z t0 k0)), (1, .int a1), (2, .int a2), (3, .int v3), (4, .int v4)] [] s := by
  unfold F_X9_sumOf_28 at hF
  refine a_iinc [(4, .int (v4 + 1)), (0, .ref (za Z t0 k0)), (1, .int a1), (2, .int a2), (3, .int v3)] dX9_sumOf_28 4 rfl rfl (by decide) rfl ?_
  refine a_goto 5 dX9_sumOf_31 (by decide) ?_
  refine a_loc [(0, .ref (za Z t0 k0)), (1, .int a1), (2, .int a2), (3, .int v3), (4, .int (v4 + 1))] [1, 2, 3, 4, 0] rfl ?_
  exact w5_ v3 (v4 + 1)  _ hF
def F_X9_sumOf_5 (g : Nat × Nat) (t0 : Nat) (k0 : Nat) (a1 : Int32) (a2 : Int32)  : Nat → Int32 → Int32 → St → Option (Int32 × St)
  | 0, _, _, _ => none
  | n_ + 1, v3, v4, s => (if a2 ≤ v4 then (some (v3, s)) else (if ((a1 >>> (v4 &&& 31)) &&& (1 : Int32)) = (1 : Int32) then (gd (inb v4 (lna t0)) (F_X9_sumOf_28 g t0 k0 a1 a2 (F_X9_sumOf_5 g t0 k0 a1 a2  n_) (v3 + (s t0 k0 v4.toNatClampNeg)) v4 s)) else (F_X9_sumOf_28 g t0 k0 a1 a2 (F_X9_sumOf_5 g t0 k0 a1 a2  n_) v3 v4 s)))
set_option maxRecDepth 100000 in
set_option maxHeartbeats 4000000 in
theorem w_X9_sumOf_5 {Z : ZE} {l : Launch} (hZ : OkX Z) {t0 : Nat} {k0 : Nat} {a1 : Int32} {a2 : Int32} (hx0 : zx Z t0 k0) (ho0 : shO t0 = none) (ha0 : shA t0 = some (lna t0)) {R : Int32 × St}  : ∀ (n_ : Nat) (v3 : Int32) (v4 : Int32)  (s : St), F_X9_sumOf_5 (zg Z) t0 k0 a1 a2 n_ v3 v4 s = some R → AW Z l iX9_sumOf (Pq (rI R)) 0 0 5 [(0, .ref (za Z t0 k0)), (1, .int a1), (2, .int a2), (3, .int v3), (4, .int v4)] [] s := by
  intro n_
  induction n_ with
  | zero =>
    intro v3 v4 s hF
    exact absurd hF (by rw [F_X9_sumOf_5]; exact fun q => by cases q)
  | succ n_ w5_ =>
    intro v3 v4 s hF
    rw [F_X9_sumOf_5] at hF
    refine a_iload dX9_sumOf_5 4 rfl ?_
    refine a_iload_n dX9_sumOf_7 2 rfl rfl ?_
    refine a_icmp_ge 34 dX9_sumOf_8 (by decide) (fun c1 => ?_) (fun c1 => ?_)
    · replace hF := (if_pos c1).symm.trans hF
      refine a_iload_n dX9_sumOf_34 3 rfl rfl ?_
      cases hF
      exact a_iret rfl (Nat.zero_le _) (Nat.zero_le _) dX9_sumOf_35 ⟨rfl, rfl⟩
    · replace hF := (if_neg c1).symm.trans hF
      refine a_iload_n dX9_sumOf_11 1 rfl rfl ?_
      refine a_iload dX9_sumOf_12 4 rfl ?_
      refine a_ishr dX9_sumOf_14 ?_
      refine a_iconst (v := (1 : Int32)) dX9_sumOf_15 (by decide) ?_
      refine a_iand dX9_sumOf_16 ?_
      refine a_iconst (v := (1 : Int32)) dX9_sumOf_17 (by decide) ?_
      refine a_icmp_ne 28 dX9_sumOf_18 (by decide) (fun c2 => ?_) (fun c2 => ?_)
      · replace hF := (if_neg c2).symm.trans hF
        exact w_X9_sumOf_28 (l := l) hZ hx0 ho0 ha0 w5_ v3 v4  _ hF
      · replace hF := (if_pos c2).symm.trans hF
        refine a_iload_n dX9_sumOf_21 3 rfl rfl ?_
        refine a_aload_n dX9_sumOf_22 0 rfl rfl ?_
        refine a_iload dX9_sumOf_23 4 rfl ?_
        obtain ⟨b3, hF⟩ := gd_some hF
        refine a_iald hZ.1 (s t0 k0 v4.toNatClampNeg) hx0 ho0 ha0 (inb_vp b3) rfl dX9_sumOf_25 ?_
        refine a_iadd dX9_sumOf_26 ?_
        refine a_istore_n [(3, .int (v3 + (s t0 k0 v4.toNatClampNeg))), (0, .ref (za Z t0 k0)), (1, .int a1), (2, .int a2), (4, .int v4)] dX9_sumOf_27 rfl (by decide) rfl ?_
        refine a_loc [(0, .ref (za Z t0 k0)), (1, .int a1), (2, .int a2), (3, .int (v3 + (s t0 k0 v4.toNatClampNeg))), (4, .int v4)] [1, 2, 3, 0, 4] rfl ?_
        exact w_X9_sumOf_28 (l := l) hZ hx0 ho0 ha0 w5_ (v3 + (s t0 k0 v4.toNatClampNeg)) v4  _ hF
def F_X9_sumOf (g : Nat × Nat) (t0 : Nat) (k0 : Nat) (a1 : Int32) (a2 : Int32)   (s : St) : Option (Int32 × St) := (F_X9_sumOf_5 g t0 k0 a1 a2  fu (0 : Int32) (0 : Int32) s)
set_option maxRecDepth 100000 in
set_option maxHeartbeats 4000000 in
theorem w_X9_sumOf {Z : ZE} {l : Launch} (hZ : OkX Z) {t0 : Nat} {k0 : Nat} {a1 : Int32} {a2 : Int32} (hx0 : zx Z t0 k0) (ho0 : shO t0 = none) (ha0 : shA t0 = some (lna t0)) {R : Int32 × St}    (s : St) (hF : F_X9_sumOf (zg Z) t0 k0 a1 a2  s = some R) : AW Z l iX9_sumOf (Pq (rI R)) 0 0 0 [(0, .ref (za Z t0 k0)), (1, .int a1), (2, .int a2)] [] s := by
  unfold F_X9_sumOf at hF
  refine a_iconst (v := (0 : Int32)) dX9_sumOf_0 (by decide) ?_
  refine a_istore_n [(3, .int (0 : Int32)), (0, .ref (za Z t0 k0)), (1, .int a1), (2, .int a2)] dX9_sumOf_1 rfl (by decide) rfl ?_
  refine a_iconst (v := (0 : Int32)) dX9_sumOf_2 (by decide) ?_
  refine a_istore [(4, .int (0 : Int32)), (3, .int (0 : Int32)), (0, .ref (za Z t0 k0)), (1, .int a1), (2, .int a2)] dX9_sumOf_3 (by decide) rfl ?_
  refine a_loc [(0, .ref (za Z t0 k0)), (1, .int a1), (2, .int a2), (3, .int (0 : Int32)), (4, .int (0 : Int32))] [2, 3, 4, 1, 0] rfl ?_
  exact w_X9_sumOf_5 (l := l) hZ hx0 ho0 ha0  fu (0 : Int32) (0 : Int32)  _ hF
theorem m_X9_sumOf {Z : ZE} {l : Launch} (hZ : OkX Z) {t0 : Nat} {k0 : Nat} {a1 : Int32} {a2 : Int32} (hx0 : zx Z t0 k0) (ho0 : shO t0 = none) (ha0 : shA t0 = some (lna t0)) {s : St} {R : Int32 × St} (hF : F_X9_sumOf (zg Z) t0 k0 a1 a2 s = some R) : Sp Z l yX9_sumOf iX9_sumOf [.ref (za Z t0 k0), .int a1, .int a2] s (rI R) :=
  Sp.of (by decide) rfl (by decide) (w_X9_sumOf hZ hx0 ho0 ha0 s hF)
-- X9_choose
def F_X9_choose_115 (g : Nat × Nat) (a1 : Int32) (a2 : Int32) (h22_ : Int32 → Int32 → St → Option (Unit × St)) (v3 : Int32) (v4 : Int32) (s : St) : Option (Unit × St) := (h22_ v3 (v4 + 1) s)
set_option maxRecDepth 100000 in
set_option maxHeartbeats 4000000 in
theorem w_X9_choose_115 {Z : ZE} {l : Launch} (hZ : OkX Z) {a1 : Int32} {a2 : Int32}  {R : Unit × St} (h22_ : Int32 → Int32 → St → Option (Unit × St)) (w22_ : ∀ (v3 : Int32) (v4 : Int32)  (s : St), h22_ v3 v4 s = some R → AW Z l iX9_choose (Pq (rU R)) 0 0 22 [(0, .ref (za Z 35 0)), (1, .int a1), (2, .int a2), (3, .int v3), (4, .int v4)] [] s) (v3 : Int32) (v4 : Int32)  (s : St) (hF : F_X9_choose_115 (zg Z) a1 a2 h22_ v3 v4 s = some R) : AW Z l iX9_choose (Pq (rU R)) 0 0 115 [(0, .ref (za Z 35 0)), (1, .int a1), (2, .int a2), (3, .int v3), (4, .int v4)] [] s := by
  unfold F_X9_choose_115 at hF
  refine a_iinc [(4, .int (v4 + 1)), (0, .ref (za Z 35 0)), (1, .int a1), (2, .int a2), (3, .int v3)] dX9_choose_115 4 rfl rfl (by decide) rfl ?_
  refine a_goto 22 dX9_choose_118 (by decide) ?_
  refine a_loc [(0, .ref (za Z 35 0)), (1, .int a1), (2, .int a2), (3, .int v3), (4, .int (v4 + 1))] [1, 2, 3, 4, 0] rfl ?_
  exact w22_ v3 (v4 + 1)  _ hF
def F_X9_choose_84 (g : Nat × Nat) (a1 : Int32) (a2 : Int32) (h22_ : Int32 → Int32 → St → Option (Unit × St)) (v3 : Int32) (v4 : Int32) (v5 : Int32) (v6 : Int32) (x0 : Int32) (s : St) : Option (Unit × St) := (if a2 < v5 then (F_X9_choose_115 g a1 a2 h22_ v3 v4 s) else (if x0 = 0 then (F_X9_choose_115 g a1 a2 h22_ v3 v4 s) else (F_X9_choose_115 g a1 a2 h22_ v3 v4 (up (up (up s 35 0 2 v4) 35 0 3 v5) 35 0 4 v6))))
set_option maxRecDepth 100000 in
set_option maxHeartbeats 4000000 in
theorem w_X9_choose_84 {Z : ZE} {l : Launch} (hZ : OkX Z) {a1 : Int32} {a2 : Int32}  {R : Unit × St} (h22_ : Int32 → Int32 → St → Option (Unit × St)) (w22_ : ∀ (v3 : Int32) (v4 : Int32)  (s : St), h22_ v3 v4 s = some R → AW Z l iX9_choose (Pq (rU R)) 0 0 22 [(0, .ref (za Z 35 0)), (1, .int a1), (2, .int a2), (3, .int v3), (4, .int v4)] [] s) (v3 : Int32) (v4 : Int32) (v5 : Int32) (v6 : Int32) (x0 : Int32)  (s : St) (hF : F_X9_choose_84 (zg Z) a1 a2 h22_ v3 v4 v5 v6 x0 s = some R) : AW Z l iX9_choose (Pq (rU R)) 0 0 84 [(0, .ref (za Z 35 0)), (1, .int a1), (2, .int a2), (3, .int v3), (4, .int v4), (5, .int v5), (6, .int v6)] [.int x0] s := by
  unfold F_X9_choose_84 at hF
  refine a_istore [(7, .int x0), (0, .ref (za Z 35 0)), (1, .int a1), (2, .int a2), (3, .int v3), (4, .int v4), (5, .int v5), (6, .int v6)] dX9_choose_84 (by decide) rfl ?_
  refine a_iload dX9_choose_86 6 rfl ?_
  refine a_iload_n dX9_choose_88 3 rfl rfl ?_
  refine a_icmp_gt 115 dX9_choose_89 (by decide) (fun c1 => ?_) (fun c1 => ?_)
  · replace hF := (if_pos c1).symm.trans hF
    refine a_loc [(0, .ref (za Z 35 0)), (1, .int a1), (2, .int a2), (3, .int v3), (4, .int v4)] [1, 2, 3, 4, 5] rfl ?_
    exact w_X9_choose_115 (l := l) hZ  h22_ w22_ v3 v4  _ hF
  · replace hF := (if_neg c1).symm.trans hF
    refine a_iload dX9_choose_92 0 rfl ?_
    refine a_if_eq 115 dX9_choose_94 (by decide) (fun c2 => ?_) (fun c2 => ?_)
    · replace hF := (if_pos c2).symm.trans hF
      refine a_loc [(0, .ref (za Z 35 0)), (1, .int a1), (2, .int a2), (3, .int v3), (4, .int v4)] [1, 2, 3, 4, 5] rfl ?_
      exact w_X9_choose_115 (l := l) hZ  h22_ w22_ v3 v4  _ hF
    · replace hF := (if_neg c2).symm.trans hF
      refine a_aload_n dX9_choose_97 1 rfl rfl ?_
      refine a_iload dX9_choose_98 5 rfl ?_
      refine a_put hZ.1 (hZ.2 35 0 (by decide) Nat.one_pos) fl_X9_22 rfl rfl rfl dX9_choose_100 ?_
      refine a_aload_n dX9_choose_103 1 rfl rfl ?_
      refine a_iload dX9_choose_104 6 rfl ?_
      refine a_put hZ.1 (hZ.2 35 0 (by decide) Nat.one_pos) fl_X9_26 rfl rfl rfl dX9_choose_106 ?_
      refine a_aload_n dX9_choose_109 1 rfl rfl ?_
      refine a_iload dX9_choose_110 7 rfl ?_
      refine a_put hZ.1 (hZ.2 35 0 (by decide) Nat.one_pos) fl_X9_29 rfl rfl rfl dX9_choose_112 ?_
      refine a_loc [(0, .ref (za Z 35 0)), (1, .int a1), (2, .int a2), (3, .int v3), (4, .int v4)] [1, 2, 3, 4, 5] rfl ?_
      exact w_X9_choose_115 (l := l) hZ  h22_ w22_ v3 v4  _ hF
def F_X9_choose_83 (g : Nat × Nat) (a1 : Int32) (a2 : Int32) (h22_ : Int32 → Int32 → St → Option (Unit × St)) (v3 : Int32) (v4 : Int32) (v5 : Int32) (v6 : Int32) (s : St) : Option (Unit × St) := (F_X9_choose_84 g a1 a2 h22_ v3 v4 v5 v6 (0 : Int32) s)
set_option maxRecDepth 100000 in
set_option maxHeartbeats 4000000 in
theorem w_X9_choose_83 {Z : ZE} {l : Launch} (hZ : OkX Z) {a1 : Int32} {a2 : Int32}  {R : Unit × St} (h22_ : Int32 → Int32 → St → Option (Unit × St)) (w22_ : ∀ (v3 : Int32) (v4 : Int32)  (s : St), h22_ v3 v4 s = some R → AW Z l iX9_choose (Pq (rU R)) 0 0 22 [(0, .ref (za Z 35 0)), (1, .int a1), (2, .int a2), (3, .int v3), (4, .int v4)] [] s) (v3 : Int32) (v4 : Int32) (v5 : Int32) (v6 : Int32)  (s : St) (hF : F_X9_choose_83 (zg Z) a1 a2 h22_ v3 v4 v5 v6 s = some R) : AW Z l iX9_choose (Pq (rU R)) 0 0 83 [(0, .ref (za Z 35 0)), (1, .int a1), (2, .int a2), (3, .int v3), (4, .int v4), (5, .int v5), (6, .int v6)] [] s := by
  unfold F_X9_choose_83 at hF
  refine a_iconst (v := (0 : Int32)) dX9_choose_83 (by decide) ?_
  exact w_X9_choose_84 (l := l) hZ  h22_ w22_ v3 v4 v5 v6 (0 : Int32)  _ hF
def F_X9_choose_79 (g : Nat × Nat) (a1 : Int32) (a2 : Int32) (h22_ : Int32 → Int32 → St → Option (Unit × St)) (v3 : Int32) (v4 : Int32) (v5 : Int32) (v6 : Int32) (s : St) : Option (Unit × St) := (F_X9_choose_84 g a1 a2 h22_ v3 v4 v5 v6 (1 : Int32) s)
set_option maxRecDepth 100000 in
set_option maxHeartbeats 4000000 in
theorem w_X9_choose_79 {Z : ZE} {l : Launch} (hZ : OkX Z) {a1 : Int32} {a2 : Int32}  {R : Unit × St} (h22_ : Int32 → Int32 → St → Option (Unit × St)) (w22_ : ∀ (v3 : Int32) (v4 : Int32)  (s : St), h22_ v3 v4 s = some R → AW Z l iX9_choose (Pq (rU R)) 0 0 22 [(0, .ref (za Z 35 0)), (1, .int a1), (2, .int a2), (3, .int v3), (4, .int v4)] [] s) (v3 : Int32) (v4 : Int32) (v5 : Int32) (v6 : Int32)  (s : St) (hF : F_X9_choose_79 (zg Z) a1 a2 h22_ v3 v4 v5 v6 s = some R) : AW Z l iX9_choose (Pq (rU R)) 0 0 79 [(0, .ref (za Z 35 0)), (1, .int a1), (2, .int a2), (3, .int v3), (4, .int v4), (5, .int v5), (6, .int v6)] [] s := by
  unfold F_X9_choose_79 at hF
  refine a_iconst (v := (1 : Int32)) dX9_choose_79 (by decide) ?_
  refine a_goto 84 dX9_choose_80 (by decide) ?_
  exact w_X9_choose_84 (l := l) hZ  h22_ w22_ v3 v4 v5 v6 (1 : Int32)  _ hF
def F_X9_choose_22 (g : Nat × Nat) (a1 : Int32) (a2 : Int32)  : Nat → Int32 → Int32 → St → Option (Unit × St)
  | 0, _, _, _ => none
  | n_ + 1, v3, v4, s => (if v3 ≤ v4 then (some ((), s)) else (bd (F_X9_sumOf g 36 0 v4 a1 s) (fun r35 s35 => (bd (F_X9_sumOf g 37 0 v4 a1 s35) (fun r47 s47 => (if (s47 35 0 4) < r47 then (F_X9_choose_79 g a1 a2 (F_X9_choose_22 g a1 a2  n_) v3 v4 r35 r47 s47) else (if r47 = (s47 35 0 4) then (if (s47 35 0 3) ≤ r35 then (F_X9_choose_83 g a1 a2 (F_X9_choose_22 g a1 a2  n_) v3 v4 r35 r47 s47) else (F_X9_choose_79 g a1 a2 (F_X9_choose_22 g a1 a2  n_) v3 v4 r35 r47 s47)) else (F_X9_choose_83 g a1 a2 (F_X9_choose_22 g a1 a2  n_) v3 v4 r35 r47 s47))))))))
set_option maxRecDepth 100000 in
set_option maxHeartbeats 4000000 in
theorem w_X9_choose_22 {Z : ZE} {l : Launch} (hZ : OkX Z) {a1 : Int32} {a2 : Int32}  {R : Unit × St}  : ∀ (n_ : Nat) (v3 : Int32) (v4 : Int32)  (s : St), F_X9_choose_22 (zg Z) a1 a2 n_ v3 v4 s = some R → AW Z l iX9_choose (Pq (rU R)) 0 0 22 [(0, .ref (za Z 35 0)), (1, .int a1), (2, .int a2), (3, .int v3), (4, .int v4)] [] s := by
  intro n_
  induction n_ with
  | zero =>
    intro v3 v4 s hF
    exact absurd hF (by rw [F_X9_choose_22]; exact fun q => by cases q)
  | succ n_ w22_ =>
    intro v3 v4 s hF
    rw [F_X9_choose_22] at hF
    refine a_iload dX9_choose_22 4 rfl ?_
    refine a_iload_n dX9_choose_24 3 rfl rfl ?_
    refine a_icmp_ge 121 dX9_choose_25 (by decide) (fun c1 => ?_) (fun c1 => ?_)
    · replace hF := (if_pos c1).symm.trans hF
      cases hF
      exact a_vret rfl (Nat.zero_le _) (Nat.zero_le _) dX9_choose_121 ⟨rfl, rfl⟩
    · replace hF := (if_neg c1).symm.trans hF
      refine a_aload_n dX9_choose_28 0 rfl rfl ?_
      refine a_getR hZ.1 (hZ.2 35 0 (by decide) Nat.one_pos) fl_X9_9 rfl 0 rfl dX9_choose_29 ?_
      refine a_iload dX9_choose_32 4 rfl ?_
      refine a_iload_n dX9_choose_34 1 rfl rfl ?_
      obtain ⟨r35, s35, e35, hF⟩ := bd_some hF
      refine a_invS hZ.1 (As := [.ref (za Z 36 0), .int v4, .int a1]) (rest := []) lk_X9_32 ⟨⟨by decide, by decide⟩, by decide, by decide⟩ rfl (Nat.le_of_ble_eq_true rfl) dX9_choose_35 (m_X9_sumOf hZ (hZ.2 36 0 (by decide) Nat.one_pos) rfl rfl e35) ?_
      show AW Z l iX9_choose (Pq (rU R)) 0 0 38 [(0, .ref (za Z 35 0)), (1, .int a1), (2, .int a2), (3, .int v3), (4, .int v4)] [.int r35] s35
      refine a_istore [(5, .int r35), (0, .ref (za Z 35 0)), (1, .int a1), (2, .int a2), (3, .int v3), (4, .int v4)] dX9_choose_38 (by decide) rfl ?_
      refine a_aload_n dX9_choose_40 1 rfl rfl ?_
      refine a_getR hZ.1 (hZ.2 35 0 (by decide) Nat.one_pos) fl_X9_15 rfl 0 rfl dX9_choose_41 ?_
      refine a_iload dX9_choose_44 5 rfl ?_
      refine a_iload_n dX9_choose_46 2 rfl rfl ?_
      obtain ⟨r47, s47, e47, hF⟩ := bd_some hF
      refine a_invS hZ.1 (As := [.ref (za Z 37 0), .int v4, .int a1]) (rest := []) lk_X9_32 ⟨⟨by decide, by decide⟩, by decide, by decide⟩ rfl (Nat.le_of_ble_eq_true rfl) dX9_choose_47 (m_X9_sumOf hZ (hZ.2 37 0 (by decide) Nat.one_pos) rfl rfl e47) ?_
      show AW Z l iX9_choose (Pq (rU R)) 0 0 50 [(5, .int r35), (0, .ref (za Z 35 0)), (1, .int a1), (2, .int a2), (3, .int v3), (4, .int v4)] [.int r47] s47
      refine a_istore [(6, .int r47), (5, .int r35), (0, .ref (za Z 35 0)), (1, .int a1), (2, .int a2), (3, .int v3), (4, .int v4)] dX9_choose_50 (by decide) rfl ?_
      refine a_iload dX9_choose_52 0 rfl ?_
      refine a_aload_n dX9_choose_54 2 rfl rfl ?_
      refine a_getI hZ.1 (s47 35 0 4) (hZ.2 35 0 (by decide) Nat.one_pos) fl_X9_29 rfl rfl dX9_choose_55 ?_
      refine a_icmp_gt 79 dX9_choose_58 (by decide) (fun c2 => ?_) (fun c2 => ?_)
      · replace hF := (if_pos c2).symm.trans hF
        refine a_loc [(0, .ref (za Z 35 0)), (1, .int a1), (2, .int a2), (3, .int v3), (4, .int v4), (5, .int r35), (6, .int r47)] [2, 3, 4, 5, 6, 1, 0] rfl ?_
        exact w_X9_choose_79 (l := l) hZ  w22_ v3 v4 r35 r47  _ hF
      · replace hF := (if_neg c2).symm.trans hF
        refine a_iload dX9_choose_61 0 rfl ?_
        refine a_aload_n dX9_choose_63 2 rfl rfl ?_
        refine a_getI hZ.1 (s47 35 0 4) (hZ.2 35 0 (by decide) Nat.one_pos) fl_X9_29 rfl rfl dX9_choose_64 ?_
        refine a_icmp_ne 83 dX9_choose_67 (by decide) (fun c3 => ?_) (fun c3 => ?_)
        · replace hF := (if_neg c3).symm.trans hF
          refine a_loc [(0, .ref (za Z 35 0)), (1, .int a1), (2, .int a2), (3, .int v3), (4, .int v4), (5, .int r35), (6, .int r47)] [2, 3, 4, 5, 6, 1, 0] rfl ?_
          exact w_X9_choose_83 (l := l) hZ  w22_ v3 v4 r35 r47  _ hF
        · replace hF := (if_pos c3).symm.trans hF
          refine a_iload dX9_choose_70 1 rfl ?_
          refine a_aload_n dX9_choose_72 2 rfl rfl ?_
          refine a_getI hZ.1 (s47 35 0 3) (hZ.2 35 0 (by decide) Nat.one_pos) fl_X9_26 rfl rfl dX9_choose_73 ?_
          refine a_icmp_ge 83 dX9_choose_76 (by decide) (fun c4 => ?_) (fun c4 => ?_)
          · replace hF := (if_pos c4).symm.trans hF
            refine a_loc [(0, .ref (za Z 35 0)), (1, .int a1), (2, .int a2), (3, .int v3), (4, .int v4), (5, .int r35), (6, .int r47)] [2, 3, 4, 5, 6, 1, 0] rfl ?_
            exact w_X9_choose_83 (l := l) hZ  w22_ v3 v4 r35 r47  _ hF
          · replace hF := (if_neg c4).symm.trans hF
            refine a_loc [(0, .ref (za Z 35 0)), (1, .int a1), (2, .int a2), (3, .int v3), (4, .int v4), (5, .int r35), (6, .int r47)] [2, 3, 4, 5, 6, 1, 0] rfl ?_
            exact w_X9_choose_79 (l := l) hZ  w22_ v3 v4 r35 r47  _ hF
def F_X9_choose (g : Nat × Nat) (a1 : Int32) (a2 : Int32)   (s : St) : Option (Unit × St) := (F_X9_choose_22 g a1 a2  fu ((1 : Int32) <<< (a1 &&& 31)) (1 : Int32) (up (up (up s 35 0 2 (0 : Int32)) 35 0 3 (0 : Int32)) 35 0 4 (0 : Int32)))
set_option maxRecDepth 100000 in
set_option maxHeartbeats 4000000 in
theorem w_X9_choose {Z : ZE} {l : Launch} (hZ : OkX Z) {a1 : Int32} {a2 : Int32}  {R : Unit × St}    (s : St) (hF : F_X9_choose (zg Z) a1 a2  s = some R) : AW Z l iX9_choose (Pq (rU R)) 0 0 0 [(0, .ref (za Z 35 0)), (1, .int a1), (2, .int a2)] [] s := by
  unfold F_X9_choose at hF
  refine a_aload_n dX9_choose_0 0 rfl rfl ?_
  refine a_iconst (v := (0 : Int32)) dX9_choose_1 (by decide) ?_
  refine a_put hZ.1 (hZ.2 35 0 (by decide) Nat.one_pos) fl_X9_22 rfl rfl rfl dX9_choose_2 ?_
  refine a_aload_n dX9_choose_5 0 rfl rfl ?_
  refine a_iconst (v := (0 : Int32)) dX9_choose_6 (by decide) ?_
  refine a_put hZ.1 (hZ.2 35 0 (by decide) Nat.one_pos) fl_X9_26 rfl rfl rfl dX9_choose_7 ?_
  refine a_aload_n dX9_choose_10 0 rfl rfl ?_
  refine a_iconst (v := (0 : Int32)) dX9_choose_11 (by decide) ?_
  refine a_put hZ.1 (hZ.2 35 0 (by decide) Nat.one_pos) fl_X9_29 rfl rfl rfl dX9_choose_12 ?_
  refine a_iconst (v := (1 : Int32)) dX9_choose_15 (by decide) ?_
  refine a_iload_n dX9_choose_16 1 rfl rfl ?_
  refine a_ishl dX9_choose_17 ?_
  refine a_istore_n [(3, .int ((1 : Int32) <<< (a1 &&& 31))), (0, .ref (za Z 35 0)), (1, .int a1), (2, .int a2)] dX9_choose_18 rfl (by decide) rfl ?_
  refine a_iconst (v := (1 : Int32)) dX9_choose_19 (by decide) ?_
  refine a_istore [(4, .int (1 : Int32)), (3, .int ((1 : Int32) <<< (a1 &&& 31))), (0, .ref (za Z 35 0)), (1, .int a1), (2, .int a2)] dX9_choose_20 (by decide) rfl ?_
  refine a_loc [(0, .ref (za Z 35 0)), (1, .int a1), (2, .int a2), (3, .int ((1 : Int32) <<< (a1 &&& 31))), (4, .int (1 : Int32))] [2, 3, 4, 1, 0] rfl ?_
  exact w_X9_choose_22 (l := l) hZ   fu ((1 : Int32) <<< (a1 &&& 31)) (1 : Int32)  _ hF
theorem m_X9_choose {Z : ZE} {l : Launch} (hZ : OkX Z) {a1 : Int32} {a2 : Int32}  {s : St} {R : Unit × St} (hF : F_X9_choose (zg Z) a1 a2 s = some R) : Sp Z l yX9_choose iX9_choose [.ref (za Z 35 0), .int a1, .int a2] s (rU R) :=
  Sp.of (by decide) rfl (by decide) (w_X9_choose hZ  s hF)
-- X9_take
def F_X9_take_3 (g : Nat × Nat) (t1 : Nat) (k1 : Nat) (a2 : Int32) (a3 : Int32)  : Nat → Int32 → St → Option (Int32 × St)
  | 0, _, _ => none
  | n_ + 1, v4, s => (if a3 ≤ v4 then (some ((1 : Int32), s)) else (gd (inb (a2 + ((2 : Int32) * v4)) (lna t1)) (gd (inb v4 10) (gd (inb ((a2 + ((2 : Int32) * v4)) + (1 : Int32)) (lna t1)) (gd (inb v4 10) (gd (inb v4 10) (bd (F_X10_within g (s t1 k1 (a2 + ((2 : Int32) * v4)).toNatClampNeg) (1 : Int32) (100 : Int32) (up (up s 36 0 v4.toNatClampNeg (s t1 k1 (a2 + ((2 : Int32) * v4)).toNatClampNeg)) 37 0 v4.toNatClampNeg ((up s 36 0 v4.toNatClampNeg (s t1 k1 (a2 + ((2 : Int32) * v4)).toNatClampNeg)) t1 k1 ((a2 + ((2 : Int32) * v4)) + (1 : Int32)).toNatClampNeg))) (fun r51 s51 => (if r51 = 0 then (some ((0 : Int32), s51)) else (gd (inb v4 10) (bd (F_X10_within g (s51 37 0 v4.toNatClampNeg) (0 : Int32) (100 : Int32) s51) (fun r67 s67 => (if r67 = 0 then (some ((0 : Int32), s67)) else (F_X9_take_3 g t1 k1 a2 a3  n_ (v4 + 1) s67))))))))))))))
set_option maxRecDepth 100000 in
set_option maxHeartbeats 4000000 in
theorem w_X9_take_3 {Z : ZE} {l : Launch} (hZ : OkX Z) {t1 : Nat} {k1 : Nat} {a2 : Int32} {a3 : Int32} (hx1 : zx Z t1 k1) (ho1 : shO t1 = none) (ha1 : shA t1 = some (lna t1)) {R : Int32 × St}  : ∀ (n_ : Nat) (v4 : Int32)  (s : St), F_X9_take_3 (zg Z) t1 k1 a2 a3 n_ v4 s = some R → AW Z l iX9_take (Pq (rI R)) 0 0 3 [(0, .ref (za Z 35 0)), (1, .ref (za Z t1 k1)), (2, .int a2), (3, .int a3), (4, .int v4)] [] s := by
  intro n_
  induction n_ with
  | zero =>
    intro v4 s hF
    exact absurd hF (by rw [F_X9_take_3]; exact fun q => by cases q)
  | succ n_ w3_ =>
    intro v4 s hF
    rw [F_X9_take_3] at hF
    refine a_iload dX9_take_3 4 rfl ?_
    refine a_iload_n dX9_take_5 3 rfl rfl ?_
    refine a_icmp_ge 81 dX9_take_6 (by decide) (fun c1 => ?_) (fun c1 => ?_)
    · replace hF := (if_pos c1).symm.trans hF
      refine a_iconst (v := (1 : Int32)) dX9_take_81 (by decide) ?_
      cases hF
      exact a_zret rfl rfl (Nat.zero_le _) (Nat.zero_le _) dX9_take_82 ⟨rfl, rfl⟩
    · replace hF := (if_neg c1).symm.trans hF
      refine a_aload_n dX9_take_9 0 rfl rfl ?_
      refine a_getR hZ.1 (hZ.2 35 0 (by decide) Nat.one_pos) fl_X9_9 rfl 0 rfl dX9_take_10 ?_
      refine a_iload dX9_take_13 4 rfl ?_
      refine a_aload_n dX9_take_15 1 rfl rfl ?_
      refine a_iload_n dX9_take_16 2 rfl rfl ?_
      refine a_iconst (v := (2 : Int32)) dX9_take_17 (by decide) ?_
      refine a_iload dX9_take_18 4 rfl ?_
      refine a_imul dX9_take_20 ?_
      refine a_iadd dX9_take_21 ?_
      obtain ⟨b2, hF⟩ := gd_some hF
      refine a_iald hZ.1 (s t1 k1 (a2 + ((2 : Int32) * v4)).toNatClampNeg) hx1 ho1 ha1 (inb_vp b2) rfl dX9_take_22 ?_
      obtain ⟨b3, hF⟩ := gd_some hF
      refine a_iast hZ.1 (hZ.2 36 0 (by decide) Nat.one_pos) rfl rfl (inb_vp b3) dX9_take_23 ?_
      refine a_aload_n dX9_take_24 0 rfl rfl ?_
      refine a_getR hZ.1 (hZ.2 35 0 (by decide) Nat.one_pos) fl_X9_15 rfl 0 rfl dX9_take_25 ?_
      refine a_iload dX9_take_28 4 rfl ?_
      refine a_aload_n dX9_take_30 1 rfl rfl ?_
      refine a_iload_n dX9_take_31 2 rfl rfl ?_
      refine a_iconst (v := (2 : Int32)) dX9_take_32 (by decide) ?_
      refine a_iload dX9_take_33 4 rfl ?_
      refine a_imul dX9_take_35 ?_
      refine a_iadd dX9_take_36 ?_
      refine a_iconst (v := (1 : Int32)) dX9_take_37 (by decide) ?_
      refine a_iadd dX9_take_38 ?_
      obtain ⟨b4, hF⟩ := gd_some hF
      refine a_iald hZ.1 ((up s 36 0 v4.toNatClampNeg (s t1 k1 (a2 + ((2 : Int32) * v4)).toNatClampNeg)) t1 k1 ((a2 + ((2 : Int32) * v4)) + (1 : Int32)).toNatClampNeg) hx1 ho1 ha1 (inb_vp b4) rfl dX9_take_39 ?_
      obtain ⟨b5, hF⟩ := gd_some hF
      refine a_iast hZ.1 (hZ.2 37 0 (by decide) Nat.one_pos) rfl rfl (inb_vp b5) dX9_take_40 ?_
      refine a_aload_n dX9_take_41 0 rfl rfl ?_
      refine a_getR hZ.1 (hZ.2 35 0 (by decide) Nat.one_pos) fl_X9_9 rfl 0 rfl dX9_take_42 ?_
      refine a_iload dX9_take_45 4 rfl ?_
      obtain ⟨b6, hF⟩ := gd_some hF
      refine a_iald hZ.1 (s t1 k1 (a2 + ((2 : Int32) * v4)).toNatClampNeg) (hZ.2 36 0 (by decide) Nat.one_pos) rfl rfl (inb_vp b6) rfl dX9_take_47 ?_
      refine a_iconst (v := (1 : Int32)) dX9_take_48 (by decide) ?_
      refine a_bipush (v := (100 : Int32)) dX9_take_49 (by decide) ?_
      obtain ⟨r51, s51, e51, hF⟩ := bd_some hF
      refine a_invN hZ.1 (As := [.int (s t1 k1 (a2 + ((2 : Int32) * v4)).toNatClampNeg), .int (1 : Int32), .int (100 : Int32)]) (rest := []) lk_X9_18 ⟨⟨by decide, by decide⟩, by decide, by decide⟩ rfl (Nat.le_of_ble_eq_true rfl) dX9_take_51 (m_X10_within hZ  e51) ?_
      show AW Z l iX9_take (Pq (rI R)) 0 0 54 [(0, .ref (za Z 35 0)), (1, .ref (za Z t1 k1)), (2, .int a2), (3, .int a3), (4, .int v4)] [.int r51] s51
      refine a_if_eq 73 dX9_take_54 (by decide) (fun c7 => ?_) (fun c7 => ?_)
      · replace hF := (if_pos c7).symm.trans hF
        refine a_iconst (v := (0 : Int32)) dX9_take_73 (by decide) ?_
        cases hF
        exact a_zret rfl rfl (Nat.zero_le _) (Nat.zero_le _) dX9_take_74 ⟨rfl, rfl⟩
      · replace hF := (if_neg c7).symm.trans hF
        refine a_aload_n dX9_take_57 0 rfl rfl ?_
        refine a_getR hZ.1 (hZ.2 35 0 (by decide) Nat.one_pos) fl_X9_15 rfl 0 rfl dX9_take_58 ?_
        refine a_iload dX9_take_61 4 rfl ?_
        obtain ⟨b8, hF⟩ := gd_some hF
        refine a_iald hZ.1 (s51 37 0 v4.toNatClampNeg) (hZ.2 37 0 (by decide) Nat.one_pos) rfl rfl (inb_vp b8) rfl dX9_take_63 ?_
        refine a_iconst (v := (0 : Int32)) dX9_take_64 (by decide) ?_
        refine a_bipush (v := (100 : Int32)) dX9_take_65 (by decide) ?_
        obtain ⟨r67, s67, e67, hF⟩ := bd_some hF
        refine a_invN hZ.1 (As := [.int (s51 37 0 v4.toNatClampNeg), .int (0 : Int32), .int (100 : Int32)]) (rest := []) lk_X9_18 ⟨⟨by decide, by decide⟩, by decide, by decide⟩ rfl (Nat.le_of_ble_eq_true rfl) dX9_take_67 (m_X10_within hZ  e67) ?_
        show AW Z l iX9_take (Pq (rI R)) 0 0 70 [(0, .ref (za Z 35 0)), (1, .ref (za Z t1 k1)), (2, .int a2), (3, .int a3), (4, .int v4)] [.int r67] s67
        refine a_if_ne 75 dX9_take_70 (by decide) (fun c9 => ?_) (fun c9 => ?_)
        · replace hF := (if_neg c9).symm.trans hF
          refine a_iinc [(4, .int (v4 + 1)), (0, .ref (za Z 35 0)), (1, .ref (za Z t1 k1)), (2, .int a2), (3, .int a3)] dX9_take_75 4 rfl rfl (by decide) rfl ?_
          refine a_goto 3 dX9_take_78 (by decide) ?_
          refine a_loc [(0, .ref (za Z 35 0)), (1, .ref (za Z t1 k1)), (2, .int a2), (3, .int a3), (4, .int (v4 + 1))] [1, 2, 3, 4, 0] rfl ?_
          exact w3_ (v4 + 1)  _ hF
        · replace hF := (if_pos c9).symm.trans hF
          refine a_iconst (v := (0 : Int32)) dX9_take_73 (by decide) ?_
          cases hF
          exact a_zret rfl rfl (Nat.zero_le _) (Nat.zero_le _) dX9_take_74 ⟨rfl, rfl⟩
def F_X9_take (g : Nat × Nat) (t1 : Nat) (k1 : Nat) (a2 : Int32) (a3 : Int32)   (s : St) : Option (Int32 × St) := (F_X9_take_3 g t1 k1 a2 a3  fu (0 : Int32) s)
set_option maxRecDepth 100000 in
set_option maxHeartbeats 4000000 in
theorem w_X9_take {Z : ZE} {l : Launch} (hZ : OkX Z) {t1 : Nat} {k1 : Nat} {a2 : Int32} {a3 : Int32} (hx1 : zx Z t1 k1) (ho1 : shO t1 = none) (ha1 : shA t1 = some (lna t1)) {R : Int32 × St}    (s : St) (hF : F_X9_take (zg Z) t1 k1 a2 a3  s = some R) : AW Z l iX9_take (Pq (rI R)) 0 0 0 [(0, .ref (za Z 35 0)), (1, .ref (za Z t1 k1)), (2, .int a2), (3, .int a3)] [] s := by
  unfold F_X9_take at hF
  refine a_iconst (v := (0 : Int32)) dX9_take_0 (by decide) ?_
  refine a_istore [(4, .int (0 : Int32)), (0, .ref (za Z 35 0)), (1, .ref (za Z t1 k1)), (2, .int a2), (3, .int a3)] dX9_take_1 (by decide) rfl ?_
  refine a_loc [(0, .ref (za Z 35 0)), (1, .ref (za Z t1 k1)), (2, .int a2), (3, .int a3), (4, .int (0 : Int32))] [1, 2, 3, 4, 0] rfl ?_
  exact w_X9_take_3 (l := l) hZ hx1 ho1 ha1  fu (0 : Int32)  _ hF
theorem m_X9_take {Z : ZE} {l : Launch} (hZ : OkX Z) {t1 : Nat} {k1 : Nat} {a2 : Int32} {a3 : Int32} (hx1 : zx Z t1 k1) (ho1 : shO t1 = none) (ha1 : shA t1 = some (lna t1)) {s : St} {R : Int32 × St} (hF : F_X9_take (zg Z) t1 k1 a2 a3 s = some R) : Sp Z l yX9_take iX9_take [.ref (za Z 35 0), .ref (za Z t1 k1), .int a2, .int a3] s (rI R) :=
  Sp.of (by decide) rfl (by decide) (w_X9_take hZ hx1 ho1 ha1 s hF)
-- X9_tells
def F_X9_tells (g : Nat × Nat) (a1 : Int32)   (s : St) : Option (Int32 × St) := (if a1 = 0 then (some ((s 35 0 2), s)) else (if a1 = (1 : Int32) then (some ((s 35 0 3), s)) else (some ((s 35 0 4), s))))
set_option maxRecDepth 100000 in
set_option maxHeartbeats 4000000 in
theorem w_X9_tells {Z : ZE} {l : Launch} (hZ : OkX Z) {a1 : Int32}  {R : Int32 × St}    (s : St) (hF : F_X9_tells (zg Z) a1  s = some R) : AW Z l iX9_tells (Pq (rI R)) 0 0 0 [(0, .ref (za Z 35 0)), (1, .int a1)] [] s := by
  unfold F_X9_tells at hF
  refine a_iload_n dX9_tells_0 1 rfl rfl ?_
  refine a_if_ne 9 dX9_tells_1 (by decide) (fun c1 => ?_) (fun c1 => ?_)
  · replace hF := (if_neg c1).symm.trans hF
    refine a_iload_n dX9_tells_9 1 rfl rfl ?_
    refine a_iconst (v := (1 : Int32)) dX9_tells_10 (by decide) ?_
    refine a_icmp_ne 21 dX9_tells_11 (by decide) (fun c2 => ?_) (fun c2 => ?_)
    · replace hF := (if_neg c2).symm.trans hF
      refine a_aload_n dX9_tells_21 0 rfl rfl ?_
      refine a_getI hZ.1 (s 35 0 4) (hZ.2 35 0 (by decide) Nat.one_pos) fl_X9_29 rfl rfl dX9_tells_22 ?_
      cases hF
      exact a_iret rfl (Nat.zero_le _) (Nat.zero_le _) dX9_tells_25 ⟨rfl, rfl⟩
    · replace hF := (if_pos c2).symm.trans hF
      refine a_aload_n dX9_tells_14 0 rfl rfl ?_
      refine a_getI hZ.1 (s 35 0 3) (hZ.2 35 0 (by decide) Nat.one_pos) fl_X9_26 rfl rfl dX9_tells_15 ?_
      refine a_goto 25 dX9_tells_18 (by decide) ?_
      cases hF
      exact a_iret rfl (Nat.zero_le _) (Nat.zero_le _) dX9_tells_25 ⟨rfl, rfl⟩
  · replace hF := (if_pos c1).symm.trans hF
    refine a_aload_n dX9_tells_4 0 rfl rfl ?_
    refine a_getI hZ.1 (s 35 0 2) (hZ.2 35 0 (by decide) Nat.one_pos) fl_X9_22 rfl rfl dX9_tells_5 ?_
    cases hF
    exact a_iret rfl (Nat.zero_le _) (Nat.zero_le _) dX9_tells_8 ⟨rfl, rfl⟩
theorem m_X9_tells {Z : ZE} {l : Launch} (hZ : OkX Z) {a1 : Int32}  {s : St} {R : Int32 × St} (hF : F_X9_tells (zg Z) a1 s = some R) : Sp Z l yX9_tells iX9_tells [.ref (za Z 35 0), .int a1] s (rI R) :=
  Sp.of (by decide) rfl (by decide) (w_X9_tells hZ  s hF)
-- X10_works
def F_X10_works (g : Nat × Nat) (a1 : Int32) (a2 : Int32) (a3 : Int32) (a4 : Int32) (a5 : Int32)   (s : St) : Option (Int32 × St) := (bd (F_X10_isSheet g a1 s) (fun r1 s1 => (if r1 = 0 then (some ((-1000001), s1)) else (bd (F_X10_within g a3 (1 : Int32) (10 : Int32) s1) (fun r11 s11 => (if r11 = 0 then (some ((-1000001), s11)) else (bd (F_X10_within g a4 (0 : Int32) (500 : Int32) s11) (fun r23 s23 => (if r23 = 0 then (some ((-1000001), s23)) else (bd (F_X10_within g a5 (0 : Int32) (2 : Int32) s23) (fun r33 s33 => (if r33 = 0 then (some ((-1000001), s33)) else (gd (inb a1 8) (bd (F_X7_findingAt g a1.toNatClampNeg a2 ((2 : Int32) * a3) s33) (fun r56 s56 => (if r56 = 0 then (bd (F_X9_take g 3 a1.toNatClampNeg a2 a3 s56) (fun r84 s84 => (if r84 = 0 then (some ((-1000001), s84)) else (bd (F_X9_choose g a3 a4 s84) (fun r100 s100 => (bd (F_X9_tells g a5 s100) (fun r110 s110 => (bd (F_X10_unfound g r110 s110) (fun r113 s113 => (some (r113, s113))))))))))) else (bd (F_X10_found g r56 s56) (fun r69 s69 => (some (r69, s69))))))))))))))))))))
set_option maxRecDepth 100000 in
set_option maxHeartbeats 4000000 in
theorem w_X10_works {Z : ZE} {l : Launch} (hZ : OkX Z) {a1 : Int32} {a2 : Int32} {a3 : Int32} {a4 : Int32} {a5 : Int32}  {R : Int32 × St}    (s : St) (hF : F_X10_works (zg Z) a1 a2 a3 a4 a5  s = some R) : AW Z l iX10_works (Pq (rI R)) 0 0 0 [(0, .ref (za Z 0 0)), (1, .int a1), (2, .int a2), (3, .int a3), (4, .int a4), (5, .int a5)] [] s := by
  unfold F_X10_works at hF
  refine a_iload_n dX10_works_0 1 rfl rfl ?_
  obtain ⟨r1, s1, e1, hF⟩ := bd_some hF
  refine a_invS hZ.1 (As := [.int a1]) (rest := []) lk_X10_71 ⟨⟨by decide, by decide⟩, by decide, by decide⟩ rfl (Nat.le_of_ble_eq_true rfl) dX10_works_1 (m_X10_isSheet hZ  e1) ?_
  show AW Z l iX10_works (Pq (rI R)) 0 0 4 [(0, .ref (za Z 0 0)), (1, .int a1), (2, .int a2), (3, .int a3), (4, .int a4), (5, .int a5)] [.int r1] s1
  refine a_if_eq 39 dX10_works_4 (by decide) (fun c1 => ?_) (fun c1 => ?_)
  · replace hF := (if_pos c1).symm.trans hF
    refine a_ldc (v := (-1000001)) kw_324 dX10_works_39 ?_
    cases hF
    exact a_iret rfl (Nat.zero_le _) (Nat.zero_le _) dX10_works_41 ⟨rfl, rfl⟩
  · replace hF := (if_neg c1).symm.trans hF
    refine a_iload_n dX10_works_7 3 rfl rfl ?_
    refine a_iconst (v := (1 : Int32)) dX10_works_8 (by decide) ?_
    refine a_bipush (v := (10 : Int32)) dX10_works_9 (by decide) ?_
    obtain ⟨r11, s11, e11, hF⟩ := bd_some hF
    refine a_invS hZ.1 (As := [.int a3, .int (1 : Int32), .int (10 : Int32)]) (rest := []) lk_X10_75 ⟨⟨by decide, by decide⟩, by decide, by decide⟩ rfl (Nat.le_of_ble_eq_true rfl) dX10_works_11 (m_X10_within hZ  e11) ?_
    show AW Z l iX10_works (Pq (rI R)) 0 0 14 [(0, .ref (za Z 0 0)), (1, .int a1), (2, .int a2), (3, .int a3), (4, .int a4), (5, .int a5)] [.int r11] s11
    refine a_if_eq 39 dX10_works_14 (by decide) (fun c2 => ?_) (fun c2 => ?_)
    · replace hF := (if_pos c2).symm.trans hF
      refine a_ldc (v := (-1000001)) kw_324 dX10_works_39 ?_
      cases hF
      exact a_iret rfl (Nat.zero_le _) (Nat.zero_le _) dX10_works_41 ⟨rfl, rfl⟩
    · replace hF := (if_neg c2).symm.trans hF
      refine a_iload dX10_works_17 4 rfl ?_
      refine a_iconst (v := (0 : Int32)) dX10_works_19 (by decide) ?_
      refine a_sipush (v := (500 : Int32)) dX10_works_20 (by decide) ?_
      obtain ⟨r23, s23, e23, hF⟩ := bd_some hF
      refine a_invS hZ.1 (As := [.int a4, .int (0 : Int32), .int (500 : Int32)]) (rest := []) lk_X10_75 ⟨⟨by decide, by decide⟩, by decide, by decide⟩ rfl (Nat.le_of_ble_eq_true rfl) dX10_works_23 (m_X10_within hZ  e23) ?_
      show AW Z l iX10_works (Pq (rI R)) 0 0 26 [(0, .ref (za Z 0 0)), (1, .int a1), (2, .int a2), (3, .int a3), (4, .int a4), (5, .int a5)] [.int r23] s23
      refine a_if_eq 39 dX10_works_26 (by decide) (fun c3 => ?_) (fun c3 => ?_)
      · replace hF := (if_pos c3).symm.trans hF
        refine a_ldc (v := (-1000001)) kw_324 dX10_works_39 ?_
        cases hF
        exact a_iret rfl (Nat.zero_le _) (Nat.zero_le _) dX10_works_41 ⟨rfl, rfl⟩
      · replace hF := (if_neg c3).symm.trans hF
        refine a_iload dX10_works_29 5 rfl ?_
        refine a_iconst (v := (0 : Int32)) dX10_works_31 (by decide) ?_
        refine a_iconst (v := (2 : Int32)) dX10_works_32 (by decide) ?_
        obtain ⟨r33, s33, e33, hF⟩ := bd_some hF
        refine a_invS hZ.1 (As := [.int a5, .int (0 : Int32), .int (2 : Int32)]) (rest := []) lk_X10_75 ⟨⟨by decide, by decide⟩, by decide, by decide⟩ rfl (Nat.le_of_ble_eq_true rfl) dX10_works_33 (m_X10_within hZ  e33) ?_
        show AW Z l iX10_works (Pq (rI R)) 0 0 36 [(0, .ref (za Z 0 0)), (1, .int a1), (2, .int a2), (3, .int a3), (4, .int a4), (5, .int a5)] [.int r33] s33
        refine a_if_ne 42 dX10_works_36 (by decide) (fun c4 => ?_) (fun c4 => ?_)
        · replace hF := (if_neg c4).symm.trans hF
          refine a_aload_n dX10_works_42 0 rfl rfl ?_
          refine a_getR hZ.1 (hZ.2 0 0 (by decide) Nat.one_pos) fl_X10_11 rfl 0 rfl dX10_works_43 ?_
          refine a_iload_n dX10_works_46 1 rfl rfl ?_
          obtain ⟨b5, hF⟩ := gd_some hF
          refine a_aald hZ.1 (hZ.2 1 0 (by decide) Nat.one_pos) rfl rfl rfl rfl (inb_vp b5) (inb_lt b5) dX10_works_47 ?_
          refine a_astore [(6, .ref (za Z 2 a1.toNatClampNeg)), (0, .ref (za Z 0 0)), (1, .int a1), (2, .int a2), (3, .int a3), (4, .int a4), (5, .int a5)] dX10_works_48 (by decide) rfl ?_
          refine a_aload dX10_works_50 0 rfl ?_
          refine a_iload_n dX10_works_52 3 rfl rfl ?_
          refine a_iconst (v := (2 : Int32)) dX10_works_53 (by decide) ?_
          refine a_iload_n dX10_works_54 4 rfl rfl ?_
          refine a_imul dX10_works_55 ?_
          obtain ⟨r56, s56, e56, hF⟩ := bd_some hF
          refine a_invV hZ.1 (As := [.int a2, .int ((2 : Int32) * a3)]) (rest := []) (hZ.2 2 a1.toNatClampNeg (by decide) (inb_lt b5)) lk_X10_91 ⟨⟨by decide, by decide⟩, by decide, by decide⟩ rfl (Nat.le_of_ble_eq_true rfl) dX10_works_56 (m_X7_findingAt hZ (inb_lt b5) e56) ?_
          show AW Z l iX10_works (Pq (rI R)) 0 0 59 [(6, .ref (za Z 2 a1.toNatClampNeg)), (0, .ref (za Z 0 0)), (1, .int a1), (2, .int a2), (3, .int a3), (4, .int a4), (5, .int a5)] [.int r56] s56
          refine a_istore [(7, .int r56), (6, .ref (za Z 2 a1.toNatClampNeg)), (0, .ref (za Z 0 0)), (1, .int a1), (2, .int a2), (3, .int a3), (4, .int a4), (5, .int a5)] dX10_works_59 (by decide) rfl ?_
          refine a_iload dX10_works_61 0 rfl ?_
          refine a_if_eq 73 dX10_works_63 (by decide) (fun c6 => ?_) (fun c6 => ?_)
          · replace hF := (if_pos c6).symm.trans hF
            refine a_aload_n dX10_works_73 2 rfl rfl ?_
            refine a_getR hZ.1 (hZ.2 0 0 (by decide) Nat.one_pos) fl_X10_52 rfl 0 rfl dX10_works_74 ?_
            refine a_aload dX10_works_77 1 rfl ?_
            refine a_getR hZ.1 (hZ.2 2 a1.toNatClampNeg (by decide) (inb_lt b5)) fl_X10_110 rfl a1.toNatClampNeg rfl dX10_works_79 ?_
            refine a_iload_n dX10_works_82 4 rfl rfl ?_
            refine a_iload_n dX10_works_83 5 rfl rfl ?_
            obtain ⟨r84, s84, e84, hF⟩ := bd_some hF
            refine a_invV hZ.1 (As := [.ref (za Z 3 a1.toNatClampNeg), .int a2, .int a3]) (rest := []) (hZ.2 35 0 (by decide) Nat.one_pos) lk_X10_262 ⟨⟨by decide, by decide⟩, by decide, by decide⟩ rfl (Nat.le_of_ble_eq_true rfl) dX10_works_84 (m_X9_take hZ (hZ.2 3 a1.toNatClampNeg (by decide) (inb_lt b5)) rfl rfl e84) ?_
            show AW Z l iX10_works (Pq (rI R)) 0 0 87 [(7, .int r56), (6, .ref (za Z 2 a1.toNatClampNeg)), (0, .ref (za Z 0 0)), (1, .int a1), (2, .int a2), (3, .int a3), (4, .int a4), (5, .int a5)] [.int r84] s84
            refine a_if_ne 93 dX10_works_87 (by decide) (fun c7 => ?_) (fun c7 => ?_)
            · replace hF := (if_neg c7).symm.trans hF
              refine a_aload_n dX10_works_93 2 rfl rfl ?_
              refine a_getR hZ.1 (hZ.2 0 0 (by decide) Nat.one_pos) fl_X10_52 rfl 0 rfl dX10_works_94 ?_
              refine a_iload_n dX10_works_97 5 rfl rfl ?_
              refine a_iload dX10_works_98 6 rfl ?_
              obtain ⟨r100, s100, e100, hF⟩ := bd_some hF
              refine a_invV hZ.1 (As := [.int a3, .int a4]) (rest := []) (hZ.2 35 0 (by decide) Nat.one_pos) lk_X10_263 ⟨⟨by decide, by decide⟩, by decide, by decide⟩ rfl (Nat.le_of_ble_eq_true rfl) dX10_works_100 (m_X9_choose hZ  e100) ?_
              show AW Z l iX10_works (Pq (rI R)) 0 0 103 [(7, .int r56), (6, .ref (za Z 2 a1.toNatClampNeg)), (0, .ref (za Z 0 0)), (1, .int a1), (2, .int a2), (3, .int a3), (4, .int a4), (5, .int a5)] [] s100
              refine a_aload_n dX10_works_103 2 rfl rfl ?_
              refine a_aload_n dX10_works_104 2 rfl rfl ?_
              refine a_getR hZ.1 (hZ.2 0 0 (by decide) Nat.one_pos) fl_X10_52 rfl 0 rfl dX10_works_105 ?_
              refine a_iload dX10_works_108 7 rfl ?_
              obtain ⟨r110, s110, e110, hF⟩ := bd_some hF
              refine a_invV hZ.1 (As := [.int a5]) (rest := [.ref (za Z 0 0)]) (hZ.2 35 0 (by decide) Nat.one_pos) lk_X10_266 ⟨⟨by decide, by decide⟩, by decide, by decide⟩ rfl (Nat.le_of_ble_eq_true rfl) dX10_works_110 (m_X9_tells hZ  e110) ?_
              show AW Z l iX10_works (Pq (rI R)) 0 0 113 [(7, .int r56), (6, .ref (za Z 2 a1.toNatClampNeg)), (0, .ref (za Z 0 0)), (1, .int a1), (2, .int a2), (3, .int a3), (4, .int a4), (5, .int a5)] [.int r110, .ref (za Z 0 0)] s110
              obtain ⟨r113, s113, e113, hF⟩ := bd_some hF
              refine a_invV hZ.1 (As := [.int r110]) (rest := []) (hZ.2 0 0 (by decide) Nat.one_pos) lk_X10_88 ⟨⟨by decide, by decide⟩, by decide, by decide⟩ rfl (Nat.le_of_ble_eq_true rfl) dX10_works_113 (m_X10_unfound hZ  e113) ?_
              show AW Z l iX10_works (Pq (rI R)) 0 0 116 [(7, .int r56), (6, .ref (za Z 2 a1.toNatClampNeg)), (0, .ref (za Z 0 0)), (1, .int a1), (2, .int a2), (3, .int a3), (4, .int a4), (5, .int a5)] [.int r113] s113
              cases hF
              exact a_iret rfl (Nat.zero_le _) (Nat.zero_le _) dX10_works_116 ⟨rfl, rfl⟩
            · replace hF := (if_pos c7).symm.trans hF
              refine a_ldc (v := (-1000001)) kw_324 dX10_works_90 ?_
              cases hF
              exact a_iret rfl (Nat.zero_le _) (Nat.zero_le _) dX10_works_92 ⟨rfl, rfl⟩
          · replace hF := (if_neg c6).symm.trans hF
            refine a_aload_n dX10_works_66 2 rfl rfl ?_
            refine a_iload dX10_works_67 0 rfl ?_
            obtain ⟨r69, s69, e69, hF⟩ := bd_some hF
            refine a_invV hZ.1 (As := [.int r56]) (rest := []) (hZ.2 0 0 (by decide) Nat.one_pos) lk_X10_80 ⟨⟨by decide, by decide⟩, by decide, by decide⟩ rfl (Nat.le_of_ble_eq_true rfl) dX10_works_69 (m_X10_found hZ  e69) ?_
            show AW Z l iX10_works (Pq (rI R)) 0 0 72 [(7, .int r56), (6, .ref (za Z 2 a1.toNatClampNeg)), (0, .ref (za Z 0 0)), (1, .int a1), (2, .int a2), (3, .int a3), (4, .int a4), (5, .int a5)] [.int r69] s69
            cases hF
            exact a_iret rfl (Nat.zero_le _) (Nat.zero_le _) dX10_works_72 ⟨rfl, rfl⟩
        · replace hF := (if_pos c4).symm.trans hF
          refine a_ldc (v := (-1000001)) kw_324 dX10_works_39 ?_
          cases hF
          exact a_iret rfl (Nat.zero_le _) (Nat.zero_le _) dX10_works_41 ⟨rfl, rfl⟩
theorem m_X10_works {Z : ZE} {l : Launch} (hZ : OkX Z) {a1 : Int32} {a2 : Int32} {a3 : Int32} {a4 : Int32} {a5 : Int32}  {s : St} {R : Int32 × St} (hF : F_X10_works (zg Z) a1 a2 a3 a4 a5 s = some R) : Sp Z l yX10_works iX10_works [.ref (za Z 0 0), .int a1, .int a2, .int a3, .int a4, .int a5] s (rI R) :=
  Sp.of (by decide) rfl (by decide) (w_X10_works hZ  s hF)
-- X11_finding
def F_X11_finding (g : Nat × Nat) (a1 : Int32)   (s : St) : Option (Int32 × St) := (some (((-1000010) - a1), (up s 60 0 1 a1)))
set_option maxRecDepth 100000 in
set_option maxHeartbeats 4000000 in
theorem w_X11_finding {Z : ZE} {l : Launch} (hZ : OkM Z) {a1 : Int32}  {R : Int32 × St}    (s : St) (hF : F_X11_finding (zg Z) a1  s = some R) : AW Z l iX11_finding (Pq (rI R)) 0 0 0 [(0, .ref (za Z 60 0)), (1, .int a1)] [] s := by
  unfold F_X11_finding at hF
  refine a_aload_n dX11_finding_0 0 rfl rfl ?_
  refine a_iload_n dX11_finding_1 1 rfl rfl ?_
  refine a_put hZ.1 (hZ.2 60 0 (by decide) (by decide) Nat.one_pos) fl_X11_7 rfl rfl rfl dX11_finding_2 ?_
  refine a_ldc (v := (-1000010)) kw_1141 dX11_finding_5 ?_
  refine a_iload_n dX11_finding_7 1 rfl rfl ?_
  refine a_isub dX11_finding_8 ?_
  cases hF
  exact a_iret rfl (Nat.zero_le _) (Nat.zero_le _) dX11_finding_9 ⟨rfl, rfl⟩
theorem m_X11_finding {Z : ZE} {l : Launch} (hZ : OkM Z) {a1 : Int32}  {s : St} {R : Int32 × St} (hF : F_X11_finding (zg Z) a1 s = some R) : Sp Z l yX11_finding iX11_finding [.ref (za Z 60 0), .int a1] s (rI R) :=
  Sp.of (by decide) rfl (by decide) (w_X11_finding hZ  s hF)
-- X11_in
def F_X11_in (g : Nat × Nat) (a0 : Int64) (a2 : Int64) (a4 : Int64)   (s : St) : Option (Int32 × St) := (if (lg_cmp a0 a2) < 0 then (some ((0 : Int32), s)) else (if 0 < (lg_cmp a0 a4) then (some ((0 : Int32), s)) else (some ((1 : Int32), s))))
set_option maxRecDepth 100000 in
set_option maxHeartbeats 4000000 in
theorem w_X11_in {Z : ZE} {l : Launch} (hZ : OkM Z) {a0 : Int64} {a2 : Int64} {a4 : Int64}  {R : Int32 × St}    (s : St) (hF : F_X11_in (zg Z) a0 a2 a4  s = some R) : AW Z l iX11_in (Pq (rI R)) 0 0 0 [(0, .long a0), (2, .long a2), (4, .long a4)] [] s := by
  unfold F_X11_in at hF
  refine a_lload_n dX11_in_0 0 rfl rfl ?_
  refine a_lload_n dX11_in_1 1 rfl rfl ?_
  refine a_lcmp dX11_in_2 ?_
  refine a_if_lt 17 dX11_in_3 (by decide) (fun c1 => ?_) (fun c1 => ?_)
  · replace hF := (if_pos c1).symm.trans hF
    refine a_iconst (v := (0 : Int32)) dX11_in_17 (by decide) ?_
    cases hF
    exact a_zret rfl rfl (Nat.zero_le _) (Nat.zero_le _) dX11_in_18 ⟨rfl, rfl⟩
  · replace hF := (if_neg c1).symm.trans hF
    refine a_lload_n dX11_in_6 0 rfl rfl ?_
    refine a_lload dX11_in_7 2 rfl ?_
    refine a_lcmp dX11_in_9 ?_
    refine a_if_gt 17 dX11_in_10 (by decide) (fun c2 => ?_) (fun c2 => ?_)
    · replace hF := (if_pos c2).symm.trans hF
      refine a_iconst (v := (0 : Int32)) dX11_in_17 (by decide) ?_
      cases hF
      exact a_zret rfl rfl (Nat.zero_le _) (Nat.zero_le _) dX11_in_18 ⟨rfl, rfl⟩
    · replace hF := (if_neg c2).symm.trans hF
      refine a_iconst (v := (1 : Int32)) dX11_in_13 (by decide) ?_
      refine a_goto 18 dX11_in_14 (by decide) ?_
      cases hF
      exact a_zret rfl rfl (Nat.zero_le _) (Nat.zero_le _) dX11_in_18 ⟨rfl, rfl⟩
theorem m_X11_in {Z : ZE} {l : Launch} (hZ : OkM Z) {a0 : Int64} {a2 : Int64} {a4 : Int64}  {s : St} {R : Int32 × St} (hF : F_X11_in (zg Z) a0 a2 a4 s = some R) : Sp Z l yX11_in iX11_in [.long a0, .long a2, .long a4] s (rI R) :=
  Sp.of (by decide) rfl (by decide) (w_X11_in hZ  s hF)
-- X11_isOf
def F_X11_isOf_34 (g : Nat × Nat) (a0 : Int32) (a1 : Int32)   (s : St) : Option (Int32 × St) := (if a1 = (4 : Int32) then (if a0 = (5 : Int32) then (some ((1 : Int32), s)) else (some ((0 : Int32), s))) else (some ((0 : Int32), s)))
set_option maxRecDepth 100000 in
set_option maxHeartbeats 4000000 in
theorem w_X11_isOf_34 {Z : ZE} {l : Launch} (hZ : OkM Z) {a0 : Int32} {a1 : Int32}  {R : Int32 × St}    (s : St) (hF : F_X11_isOf_34 (zg Z) a0 a1  s = some R) : AW Z l iX11_isOf (Pq (rI R)) 0 0 34 [(0, .int a0), (1, .int a1)] [] s := by
  unfold F_X11_isOf_34 at hF
  refine a_iload_n dX11_isOf_34 1 rfl rfl ?_
  refine a_iconst (v := (4 : Int32)) dX11_isOf_35 (by decide) ?_
  refine a_icmp_ne 48 dX11_isOf_36 (by decide) (fun c1 => ?_) (fun c1 => ?_)
  · replace hF := (if_neg c1).symm.trans hF
    refine a_iconst (v := (0 : Int32)) dX11_isOf_48 (by decide) ?_
    cases hF
    exact a_zret rfl rfl (Nat.zero_le _) (Nat.zero_le _) dX11_isOf_49 ⟨rfl, rfl⟩
  · replace hF := (if_pos c1).symm.trans hF
    refine a_iload_n dX11_isOf_39 0 rfl rfl ?_
    refine a_iconst (v := (5 : Int32)) dX11_isOf_40 (by decide) ?_
    refine a_icmp_ne 48 dX11_isOf_41 (by decide) (fun c2 => ?_) (fun c2 => ?_)
    · replace hF := (if_neg c2).symm.trans hF
      refine a_iconst (v := (0 : Int32)) dX11_isOf_48 (by decide) ?_
      cases hF
      exact a_zret rfl rfl (Nat.zero_le _) (Nat.zero_le _) dX11_isOf_49 ⟨rfl, rfl⟩
    · replace hF := (if_pos c2).symm.trans hF
      refine a_iconst (v := (1 : Int32)) dX11_isOf_44 (by decide) ?_
      refine a_goto 49 dX11_isOf_45 (by decide) ?_
      cases hF
      exact a_zret rfl rfl (Nat.zero_le _) (Nat.zero_le _) dX11_isOf_49 ⟨rfl, rfl⟩
def F_X11_isOf_24 (g : Nat × Nat) (a0 : Int32) (a1 : Int32)   (s : St) : Option (Int32 × St) := (if a1 = (2 : Int32) then (if a0 = (3 : Int32) then (some ((1 : Int32), s)) else (F_X11_isOf_34 g a0 a1   s)) else (F_X11_isOf_34 g a0 a1   s))
set_option maxRecDepth 100000 in
set_option maxHeartbeats 4000000 in
theorem w_X11_isOf_24 {Z : ZE} {l : Launch} (hZ : OkM Z) {a0 : Int32} {a1 : Int32}  {R : Int32 × St}    (s : St) (hF : F_X11_isOf_24 (zg Z) a0 a1  s = some R) : AW Z l iX11_isOf (Pq (rI R)) 0 0 24 [(0, .int a0), (1, .int a1)] [] s := by
  unfold F_X11_isOf_24 at hF
  refine a_iload_n dX11_isOf_24 1 rfl rfl ?_
  refine a_iconst (v := (2 : Int32)) dX11_isOf_25 (by decide) ?_
  refine a_icmp_ne 34 dX11_isOf_26 (by decide) (fun c1 => ?_) (fun c1 => ?_)
  · replace hF := (if_neg c1).symm.trans hF
    exact w_X11_isOf_34 (l := l) hZ     _ hF
  · replace hF := (if_pos c1).symm.trans hF
    refine a_iload_n dX11_isOf_29 0 rfl rfl ?_
    refine a_iconst (v := (3 : Int32)) dX11_isOf_30 (by decide) ?_
    refine a_icmp_eq 44 dX11_isOf_31 (by decide) (fun c2 => ?_) (fun c2 => ?_)
    · replace hF := (if_pos c2).symm.trans hF
      refine a_iconst (v := (1 : Int32)) dX11_isOf_44 (by decide) ?_
      refine a_goto 49 dX11_isOf_45 (by decide) ?_
      cases hF
      exact a_zret rfl rfl (Nat.zero_le _) (Nat.zero_le _) dX11_isOf_49 ⟨rfl, rfl⟩
    · replace hF := (if_neg c2).symm.trans hF
      exact w_X11_isOf_34 (l := l) hZ     _ hF
def F_X11_isOf (g : Nat × Nat) (a0 : Int32) (a1 : Int32)   (s : St) : Option (Int32 × St) := (if a1 = 0 then (some ((1 : Int32), s)) else (if a0 = a1 then (some ((1 : Int32), s)) else (if a1 = (1 : Int32) then (if a0 = (2 : Int32) then (some ((1 : Int32), s)) else (if a0 = (3 : Int32) then (some ((1 : Int32), s)) else (F_X11_isOf_24 g a0 a1   s))) else (F_X11_isOf_24 g a0 a1   s))))
set_option maxRecDepth 100000 in
set_option maxHeartbeats 4000000 in
theorem w_X11_isOf {Z : ZE} {l : Launch} (hZ : OkM Z) {a0 : Int32} {a1 : Int32}  {R : Int32 × St}    (s : St) (hF : F_X11_isOf (zg Z) a0 a1  s = some R) : AW Z l iX11_isOf (Pq (rI R)) 0 0 0 [(0, .int a0), (1, .int a1)] [] s := by
  unfold F_X11_isOf at hF
  refine a_iload_n dX11_isOf_0 1 rfl rfl ?_
  refine a_if_eq 44 dX11_isOf_1 (by decide) (fun c1 => ?_) (fun c1 => ?_)
  · replace hF := (if_pos c1).symm.trans hF
    refine a_iconst (v := (1 : Int32)) dX11_isOf_44 (by decide) ?_
    refine a_goto 49 dX11_isOf_45 (by decide) ?_
    cases hF
    exact a_zret rfl rfl (Nat.zero_le _) (Nat.zero_le _) dX11_isOf_49 ⟨rfl, rfl⟩
  · replace hF := (if_neg c1).symm.trans hF
    refine a_iload_n dX11_isOf_4 0 rfl rfl ?_
    refine a_iload_n dX11_isOf_5 1 rfl rfl ?_
    refine a_icmp_eq 44 dX11_isOf_6 (by decide) (fun c2 => ?_) (fun c2 => ?_)
    · replace hF := (if_pos c2).symm.trans hF
      refine a_iconst (v := (1 : Int32)) dX11_isOf_44 (by decide) ?_
      refine a_goto 49 dX11_isOf_45 (by decide) ?_
      cases hF
      exact a_zret rfl rfl (Nat.zero_le _) (Nat.zero_le _) dX11_isOf_49 ⟨rfl, rfl⟩
    · replace hF := (if_neg c2).symm.trans hF
      refine a_iload_n dX11_isOf_9 1 rfl rfl ?_
      refine a_iconst (v := (1 : Int32)) dX11_isOf_10 (by decide) ?_
      refine a_icmp_ne 24 dX11_isOf_11 (by decide) (fun c3 => ?_) (fun c3 => ?_)
      · replace hF := (if_neg c3).symm.trans hF
        exact w_X11_isOf_24 (l := l) hZ     _ hF
      · replace hF := (if_pos c3).symm.trans hF
        refine a_iload_n dX11_isOf_14 0 rfl rfl ?_
        refine a_iconst (v := (2 : Int32)) dX11_isOf_15 (by decide) ?_
        refine a_icmp_eq 44 dX11_isOf_16 (by decide) (fun c4 => ?_) (fun c4 => ?_)
        · replace hF := (if_pos c4).symm.trans hF
          refine a_iconst (v := (1 : Int32)) dX11_isOf_44 (by decide) ?_
          refine a_goto 49 dX11_isOf_45 (by decide) ?_
          cases hF
          exact a_zret rfl rfl (Nat.zero_le _) (Nat.zero_le _) dX11_isOf_49 ⟨rfl, rfl⟩
        · replace hF := (if_neg c4).symm.trans hF
          refine a_iload_n dX11_isOf_19 0 rfl rfl ?_
          refine a_iconst (v := (3 : Int32)) dX11_isOf_20 (by decide) ?_
          refine a_icmp_eq 44 dX11_isOf_21 (by decide) (fun c5 => ?_) (fun c5 => ?_)
          · replace hF := (if_pos c5).symm.trans hF
            refine a_iconst (v := (1 : Int32)) dX11_isOf_44 (by decide) ?_
            refine a_goto 49 dX11_isOf_45 (by decide) ?_
            cases hF
            exact a_zret rfl rfl (Nat.zero_le _) (Nat.zero_le _) dX11_isOf_49 ⟨rfl, rfl⟩
          · replace hF := (if_neg c5).symm.trans hF
            exact w_X11_isOf_24 (l := l) hZ     _ hF
theorem m_X11_isOf {Z : ZE} {l : Launch} (hZ : OkM Z) {a0 : Int32} {a1 : Int32}  {s : St} {R : Int32 × St} (hF : F_X11_isOf (zg Z) a0 a1 s = some R) : Sp Z l yX11_isOf iX11_isOf [.int a0, .int a1] s (rI R) :=
  Sp.of (by decide) rfl (by decide) (w_X11_isOf hZ  s hF)
-- X11_isThing
def F_X11_isThing (g : Nat × Nat) (a1 : Int32)   (s : St) : Option (Int32 × St) := (bd (F_X11_in g a1.toInt64 (0 : Int64) (((s 60 0 47) - (1 : Int32)).toInt64) s) (fun r10 s10 => (gd (isb r10) (some (r10, s10)))))
set_option maxRecDepth 100000 in
set_option maxHeartbeats 4000000 in
theorem w_X11_isThing {Z : ZE} {l : Launch} (hZ : OkM Z) {a1 : Int32}  {R : Int32 × St}    (s : St) (hF : F_X11_isThing (zg Z) a1  s = some R) : AW Z l iX11_isThing (Pq (rI R)) 0 0 0 [(0, .ref (za Z 60 0)), (1, .int a1)] [] s := by
  unfold F_X11_isThing at hF
  refine a_iload_n dX11_isThing_0 1 rfl rfl ?_
  refine a_i2l dX11_isThing_1 ?_
  refine a_lconst (v := (0 : Int64)) dX11_isThing_2 (by decide) ?_
  refine a_aload_n dX11_isThing_3 0 rfl rfl ?_
  refine a_getI hZ.1 (s 60 0 47) (hZ.2 60 0 (by decide) (by decide) Nat.one_pos) fl_X11_326 rfl rfl dX11_isThing_4 ?_
  refine a_iconst (v := (1 : Int32)) dX11_isThing_7 (by decide) ?_
  refine a_isub dX11_isThing_8 ?_
  refine a_i2l dX11_isThing_9 ?_
  obtain ⟨r10, s10, e10, hF⟩ := bd_some hF
  refine a_invS hZ.1 (As := [.long a1.toInt64, .long (0 : Int64), .long ((s 60 0 47) - (1 : Int32)).toInt64]) (rest := []) lk_X11_126 ⟨⟨by decide, by decide⟩, by decide, by decide⟩ rfl (Nat.le_of_ble_eq_true rfl) dX11_isThing_10 (m_X11_in hZ  e10) ?_
  show AW Z l iX11_isThing (Pq (rI R)) 0 0 13 [(0, .ref (za Z 60 0)), (1, .int a1)] [.int r10] s10
  obtain ⟨b1, hF⟩ := gd_some hF
  cases hF
  exact a_zret rfl (isb_n b1) (Nat.zero_le _) (Nat.zero_le _) dX11_isThing_13 ⟨rfl, rfl⟩
theorem m_X11_isThing {Z : ZE} {l : Launch} (hZ : OkM Z) {a1 : Int32}  {s : St} {R : Int32 × St} (hF : F_X11_isThing (zg Z) a1 s = some R) : Sp Z l yX11_isThing iX11_isThing [.ref (za Z 60 0), .int a1] s (rI R) :=
  Sp.of (by decide) rfl (by decide) (w_X11_isThing hZ  s hF)
-- X11_as
def F_X11_as (g : Nat × Nat) (a1 : Int32) (a2 : Int32)   (s : St) : Option (Int32 × St) := (bd (F_X11_isThing g a1 (up s 60 0 0 (0 : Int32))) (fun r7 s7 => (if r7 = 0 then (some ((-1000001), s7)) else (bd (F_X11_in g a2.toInt64 (0 : Int64) (5 : Int64) s7) (fun r19 s19 => (if r19 = 0 then (some ((-1000001), s19)) else (gd (inb a1 16) (bd (F_X11_isOf g (s19 88 0 a1.toNatClampNeg) a2 (up s19 60 0 1 (0 : Int32))) (fun r40 s40 => (if r40 = 0 then (bd (F_X11_finding g (3 : Int32) s40) (fun r57 s57 => (some (r57, s57)))) else (gd (inb a1 16) (some ((s40 89 0 a1.toNatClampNeg), s40)))))))))))))
set_option maxRecDepth 100000 in
set_option maxHeartbeats 4000000 in
theorem w_X11_as {Z : ZE} {l : Launch} (hZ : OkM Z) {a1 : Int32} {a2 : Int32}  {R : Int32 × St}    (s : St) (hF : F_X11_as (zg Z) a1 a2  s = some R) : AW Z l iX11_as (Pq (rI R)) 0 0 0 [(0, .ref (za Z 60 0)), (1, .int a1), (2, .int a2)] [] s := by
  unfold F_X11_as at hF
  refine a_aload_n dX11_as_0 0 rfl rfl ?_
  refine a_iconst (v := (0 : Int32)) dX11_as_1 (by decide) ?_
  refine a_put hZ.1 (hZ.2 60 0 (by decide) (by decide) Nat.one_pos) fl_X11_1 rfl rfl rfl dX11_as_2 ?_
  refine a_aload_n dX11_as_5 0 rfl rfl ?_
  refine a_iload_n dX11_as_6 1 rfl rfl ?_
  obtain ⟨r7, s7, e7, hF⟩ := bd_some hF
  refine a_invV hZ.1 (As := [.int a1]) (rest := []) (hZ.2 60 0 (by decide) (by decide) Nat.one_pos) lk_X11_329 ⟨⟨by decide, by decide⟩, by decide, by decide⟩ rfl (Nat.le_of_ble_eq_true rfl) dX11_as_7 (m_X11_isThing hZ  e7) ?_
  show AW Z l iX11_as (Pq (rI R)) 0 0 10 [(0, .ref (za Z 60 0)), (1, .int a1), (2, .int a2)] [.int r7] s7
  refine a_if_eq 25 dX11_as_10 (by decide) (fun c1 => ?_) (fun c1 => ?_)
  · replace hF := (if_pos c1).symm.trans hF
    refine a_ldc (v := (-1000001)) kw_1136 dX11_as_25 ?_
    cases hF
    exact a_iret rfl (Nat.zero_le _) (Nat.zero_le _) dX11_as_27 ⟨rfl, rfl⟩
  · replace hF := (if_neg c1).symm.trans hF
    refine a_iload_n dX11_as_13 2 rfl rfl ?_
    refine a_i2l dX11_as_14 ?_
    refine a_lconst (v := (0 : Int64)) dX11_as_15 (by decide) ?_
    refine a_ldc2 (v := (5 : Int64)) kw_1247 dX11_as_16 ?_
    obtain ⟨r19, s19, e19, hF⟩ := bd_some hF
    refine a_invS hZ.1 (As := [.long a2.toInt64, .long (0 : Int64), .long (5 : Int64)]) (rest := []) lk_X11_126 ⟨⟨by decide, by decide⟩, by decide, by decide⟩ rfl (Nat.le_of_ble_eq_true rfl) dX11_as_19 (m_X11_in hZ  e19) ?_
    show AW Z l iX11_as (Pq (rI R)) 0 0 22 [(0, .ref (za Z 60 0)), (1, .int a1), (2, .int a2)] [.int r19] s19
    refine a_if_ne 28 dX11_as_22 (by decide) (fun c2 => ?_) (fun c2 => ?_)
    · replace hF := (if_neg c2).symm.trans hF
      refine a_aload_n dX11_as_28 0 rfl rfl ?_
      refine a_iconst (v := (0 : Int32)) dX11_as_29 (by decide) ?_
      refine a_put hZ.1 (hZ.2 60 0 (by decide) (by decide) Nat.one_pos) fl_X11_7 rfl rfl rfl dX11_as_30 ?_
      refine a_aload_n dX11_as_33 0 rfl rfl ?_
      refine a_getR hZ.1 (hZ.2 60 0 (by decide) (by decide) Nat.one_pos) fl_X11_103 rfl 0 rfl dX11_as_34 ?_
      refine a_iload_n dX11_as_37 1 rfl rfl ?_
      obtain ⟨b3, hF⟩ := gd_some hF
      refine a_iald hZ.1 (s19 88 0 a1.toNatClampNeg) (hZ.2 88 0 (by decide) (by decide) Nat.one_pos) rfl rfl (inb_vp b3) rfl dX11_as_38 ?_
      refine a_iload_n dX11_as_39 2 rfl rfl ?_
      obtain ⟨r40, s40, e40, hF⟩ := bd_some hF
      refine a_invS hZ.1 (As := [.int (s19 88 0 a1.toNatClampNeg), .int a2]) (rest := []) lk_X11_337 ⟨⟨by decide, by decide⟩, by decide, by decide⟩ rfl (Nat.le_of_ble_eq_true rfl) dX11_as_40 (m_X11_isOf hZ  e40) ?_
      show AW Z l iX11_as (Pq (rI R)) 0 0 43 [(0, .ref (za Z 60 0)), (1, .int a1), (2, .int a2)] [.int r40] s40
      refine a_if_eq 55 dX11_as_43 (by decide) (fun c4 => ?_) (fun c4 => ?_)
      · replace hF := (if_pos c4).symm.trans hF
        refine a_aload_n dX11_as_55 0 rfl rfl ?_
        refine a_iconst (v := (3 : Int32)) dX11_as_56 (by decide) ?_
        obtain ⟨r57, s57, e57, hF⟩ := bd_some hF
        refine a_invV hZ.1 (As := [.int (3 : Int32)]) (rest := []) (hZ.2 60 0 (by decide) (by decide) Nat.one_pos) lk_X11_137 ⟨⟨by decide, by decide⟩, by decide, by decide⟩ rfl (Nat.le_of_ble_eq_true rfl) dX11_as_57 (m_X11_finding hZ  e57) ?_
        show AW Z l iX11_as (Pq (rI R)) 0 0 60 [(0, .ref (za Z 60 0)), (1, .int a1), (2, .int a2)] [.int r57] s57
        cases hF
        exact a_iret rfl (Nat.zero_le _) (Nat.zero_le _) dX11_as_60 ⟨rfl, rfl⟩
      · replace hF := (if_neg c4).symm.trans hF
        refine a_aload_n dX11_as_46 0 rfl rfl ?_
        refine a_getR hZ.1 (hZ.2 60 0 (by decide) (by decide) Nat.one_pos) fl_X11_106 rfl 0 rfl dX11_as_47 ?_
        refine a_iload_n dX11_as_50 1 rfl rfl ?_
        obtain ⟨b5, hF⟩ := gd_some hF
        refine a_iald hZ.1 (s40 89 0 a1.toNatClampNeg) (hZ.2 89 0 (by decide) (by decide) Nat.one_pos) rfl rfl (inb_vp b5) rfl dX11_as_51 ?_
        refine a_goto 60 dX11_as_52 (by decide) ?_
        cases hF
        exact a_iret rfl (Nat.zero_le _) (Nat.zero_le _) dX11_as_60 ⟨rfl, rfl⟩
    · replace hF := (if_pos c2).symm.trans hF
      refine a_ldc (v := (-1000001)) kw_1136 dX11_as_25 ?_
      cases hF
      exact a_iret rfl (Nat.zero_le _) (Nat.zero_le _) dX11_as_27 ⟨rfl, rfl⟩
theorem m_X11_as {Z : ZE} {l : Launch} (hZ : OkM Z) {a1 : Int32} {a2 : Int32}  {s : St} {R : Int32 × St} (hF : F_X11_as (zg Z) a1 a2 s = some R) : Sp Z l yX11_as iX11_as [.ref (za Z 60 0), .int a1, .int a2] s (rI R) :=
  Sp.of (by decide) rfl (by decide) (w_X11_as hZ  s hF)
-- X11_began
def F_X11_began (g : Nat × Nat) (a1 : Int32)   (s : St) : Option (Unit × St) := (if (16 : Int32) ≤ (s 60 0 56) then (some ((), s)) else (gd (inb (s 60 0 56) 16) (some ((), (up (up s 94 0 (s 60 0 56).toNatClampNeg a1) 60 0 56 ((s 60 0 56) + (1 : Int32)))))))
set_option maxRecDepth 100000 in
set_option maxHeartbeats 4000000 in
theorem w_X11_began {Z : ZE} {l : Launch} (hZ : OkM Z) {a1 : Int32}  {R : Unit × St}    (s : St) (hF : F_X11_began (zg Z) a1  s = some R) : AW Z l iX11_began (Pq (rU R)) 0 0 0 [(0, .ref (za Z 60 0)), (1, .int a1)] [] s := by
  unfold F_X11_began at hF
  refine a_aload_n dX11_began_0 0 rfl rfl ?_
  refine a_getI hZ.1 (s 60 0 56) (hZ.2 60 0 (by decide) (by decide) Nat.one_pos) fl_X11_341 rfl rfl dX11_began_1 ?_
  refine a_bipush (v := (16 : Int32)) dX11_began_4 (by decide) ?_
  refine a_icmp_ge 29 dX11_began_6 (by decide) (fun c1 => ?_) (fun c1 => ?_)
  · replace hF := (if_pos c1).symm.trans hF
    cases hF
    exact a_vret rfl (Nat.zero_le _) (Nat.zero_le _) dX11_began_29 ⟨rfl, rfl⟩
  · replace hF := (if_neg c1).symm.trans hF
    refine a_aload_n dX11_began_9 0 rfl rfl ?_
    refine a_getR hZ.1 (hZ.2 60 0 (by decide) (by decide) Nat.one_pos) fl_X11_121 rfl 0 rfl dX11_began_10 ?_
    refine a_aload_n dX11_began_13 0 rfl rfl ?_
    refine a_getI hZ.1 (s 60 0 56) (hZ.2 60 0 (by decide) (by decide) Nat.one_pos) fl_X11_341 rfl rfl dX11_began_14 ?_
    refine a_iload_n dX11_began_17 1 rfl rfl ?_
    obtain ⟨b2, hF⟩ := gd_some hF
    refine a_iast hZ.1 (hZ.2 94 0 (by decide) (by decide) Nat.one_pos) rfl rfl (inb_vp b2) dX11_began_18 ?_
    refine a_aload_n dX11_began_19 0 rfl rfl ?_
    refine a_dup dX11_began_20 rfl ?_
    refine a_getI hZ.1 (s 60 0 56) (hZ.2 60 0 (by decide) (by decide) Nat.one_pos) fl_X11_341 rfl rfl dX11_began_21 ?_
    refine a_iconst (v := (1 : Int32)) dX11_began_24 (by decide) ?_
    refine a_iadd dX11_began_25 ?_
    refine a_put hZ.1 (hZ.2 60 0 (by decide) (by decide) Nat.one_pos) fl_X11_341 rfl rfl rfl dX11_began_26 ?_
    cases hF
    exact a_vret rfl (Nat.zero_le _) (Nat.zero_le _) dX11_began_29 ⟨rfl, rfl⟩
theorem m_X11_began {Z : ZE} {l : Launch} (hZ : OkM Z) {a1 : Int32}  {s : St} {R : Unit × St} (hF : F_X11_began (zg Z) a1 s = some R) : Sp Z l yX11_began iX11_began [.ref (za Z 60 0), .int a1] s (rU R) :=
  Sp.of (by decide) rfl (by decide) (w_X11_began hZ  s hF)
-- X11_loanSize
def F_X11_loanSize (g : Nat × Nat) (a1 : Int32)   (s : St) : Option (Int32 × St) := (bd (F_X11_began g (14 : Int32) s) (fun r3 s3 => (bd (F_X11_began g (10 : Int32) s3) (fun r9 s9 => (gd (inb a1 16) (some (((s9 89 0 a1.toNatClampNeg) / (2 : Int32)), s9)))))))
set_option maxRecDepth 100000 in
set_option maxHeartbeats 4000000 in
theorem w_X11_loanSize {Z : ZE} {l : Launch} (hZ : OkM Z) {a1 : Int32}  {R : Int32 × St}    (s : St) (hF : F_X11_loanSize (zg Z) a1  s = some R) : AW Z l iX11_loanSize (Pq (rI R)) 0 0 0 [(0, .ref (za Z 60 0)), (1, .int a1)] [] s := by
  unfold F_X11_loanSize at hF
  refine a_aload_n dX11_loanSize_0 0 rfl rfl ?_
  refine a_bipush (v := (14 : Int32)) dX11_loanSize_1 (by decide) ?_
  obtain ⟨r3, s3, e3, hF⟩ := bd_some hF
  refine a_invV hZ.1 (As := [.int (14 : Int32)]) (rest := []) (hZ.2 60 0 (by decide) (by decide) Nat.one_pos) lk_X11_344 ⟨⟨by decide, by decide⟩, by decide, by decide⟩ rfl (Nat.le_of_ble_eq_true rfl) dX11_loanSize_3 (m_X11_began hZ  e3) ?_
  show AW Z l iX11_loanSize (Pq (rI R)) 0 0 6 [(0, .ref (za Z 60 0)), (1, .int a1)] [] s3
  refine a_aload_n dX11_loanSize_6 0 rfl rfl ?_
  refine a_bipush (v := (10 : Int32)) dX11_loanSize_7 (by decide) ?_
  obtain ⟨r9, s9, e9, hF⟩ := bd_some hF
  refine a_invV hZ.1 (As := [.int (10 : Int32)]) (rest := []) (hZ.2 60 0 (by decide) (by decide) Nat.one_pos) lk_X11_344 ⟨⟨by decide, by decide⟩, by decide, by decide⟩ rfl (Nat.le_of_ble_eq_true rfl) dX11_loanSize_9 (m_X11_began hZ  e9) ?_
  show AW Z l iX11_loanSize (Pq (rI R)) 0 0 12 [(0, .ref (za Z 60 0)), (1, .int a1)] [] s9
  refine a_aload_n dX11_loanSize_12 0 rfl rfl ?_
  refine a_getR hZ.1 (hZ.2 60 0 (by decide) (by decide) Nat.one_pos) fl_X11_106 rfl 0 rfl dX11_loanSize_13 ?_
  refine a_iload_n dX11_loanSize_16 1 rfl rfl ?_
  obtain ⟨b1, hF⟩ := gd_some hF
  refine a_iald hZ.1 (s9 89 0 a1.toNatClampNeg) (hZ.2 89 0 (by decide) (by decide) Nat.one_pos) rfl rfl (inb_vp b1) rfl dX11_loanSize_17 ?_
  refine a_iconst (v := (2 : Int32)) dX11_loanSize_18 (by decide) ?_
  refine a_idiv dX11_loanSize_19 (by decide) ?_
  cases hF
  exact a_iret rfl (Nat.zero_le _) (Nat.zero_le _) dX11_loanSize_20 ⟨rfl, rfl⟩
theorem m_X11_loanSize {Z : ZE} {l : Launch} (hZ : OkM Z) {a1 : Int32}  {s : St} {R : Int32 × St} (hF : F_X11_loanSize (zg Z) a1 s = some R) : Sp Z l yX11_loanSize iX11_loanSize [.ref (za Z 60 0), .int a1] s (rI R) :=
  Sp.of (by decide) rfl (by decide) (w_X11_loanSize hZ  s hF)
-- X11_numberFor
def F_X11_numberFor_100 (g : Nat × Nat) (a1 : Int32) (a2 : Int32) (a3 : Int32)  (v4 : Int32) (s : St) : Option (Int32 × St) := (if v4 = (-1000000) then (some ((0 : Int32), s)) else (gd (inb v4 30) (some ((s 81 0 v4.toNatClampNeg), s))))
set_option maxRecDepth 100000 in
set_option maxHeartbeats 4000000 in
theorem w_X11_numberFor_100 {Z : ZE} {l : Launch} (hZ : OkM Z) {a1 : Int32} {a2 : Int32} {a3 : Int32}  {R : Int32 × St}  (v4 : Int32)  (s : St) (hF : F_X11_numberFor_100 (zg Z) a1 a2 a3 v4 s = some R) : AW Z l iX11_numberFor (Pq (rI R)) 0 0 100 [(0, .ref (za Z 60 0)), (4, .int v4)] [] s := by
  unfold F_X11_numberFor_100 at hF
  refine a_iload dX11_numberFor_100 1 rfl ?_
  refine a_ldc (v := (-1000000)) kw_951 dX11_numberFor_102 ?_
  refine a_icmp_ne 111 dX11_numberFor_104 (by decide) (fun c1 => ?_) (fun c1 => ?_)
  · replace hF := (if_neg c1).symm.trans hF
    refine a_aload_n dX11_numberFor_111 0 rfl rfl ?_
    refine a_getR hZ.1 (hZ.2 60 0 (by decide) (by decide) Nat.one_pos) fl_X11_82 rfl 0 rfl dX11_numberFor_112 ?_
    refine a_iload dX11_numberFor_115 1 rfl ?_
    obtain ⟨b2, hF⟩ := gd_some hF
    refine a_iald hZ.1 (s 81 0 v4.toNatClampNeg) (hZ.2 81 0 (by decide) (by decide) Nat.one_pos) rfl rfl (inb_vp b2) rfl dX11_numberFor_117 ?_
    cases hF
    exact a_iret rfl (Nat.zero_le _) (Nat.zero_le _) dX11_numberFor_118 ⟨rfl, rfl⟩
  · replace hF := (if_pos c1).symm.trans hF
    refine a_iconst (v := (0 : Int32)) dX11_numberFor_107 (by decide) ?_
    refine a_goto 118 dX11_numberFor_108 (by decide) ?_
    cases hF
    exact a_iret rfl (Nat.zero_le _) (Nat.zero_le _) dX11_numberFor_118 ⟨rfl, rfl⟩
def F_X11_numberFor_92 (g : Nat × Nat) (a1 : Int32) (a2 : Int32) (a3 : Int32) (h7_ : Int32 → Int32 → St → Option (Int32 × St)) (h100_ : Int32 → St → Option (Int32 × St)) (v5 : Int32) (x0 : Int32) (s : St) : Option (Int32 × St) := (h7_ x0 (v5 + 1) s)
set_option maxRecDepth 100000 in
set_option maxHeartbeats 4000000 in
theorem w_X11_numberFor_92 {Z : ZE} {l : Launch} (hZ : OkM Z) {a1 : Int32} {a2 : Int32} {a3 : Int32}  {R : Int32 × St} (h7_ : Int32 → Int32 → St → Option (Int32 × St)) (w7_ : ∀ (v4 : Int32) (v5 : Int32)  (s : St), h7_ v4 v5 s = some R → AW Z l iX11_numberFor (Pq (rI R)) 0 0 7 [(0, .ref (za Z 60 0)), (1, .int a1), (2, .int a2), (3, .int a3), (4, .int v4), (5, .int v5)] [] s) (h100_ : Int32 → St → Option (Int32 × St)) (w100_ : ∀ (v4 : Int32)  (s : St), h100_ v4 s = some R → AW Z l iX11_numberFor (Pq (rI R)) 0 0 100 [(0, .ref (za Z 60 0)), (4, .int v4)] [] s) (v5 : Int32) (x0 : Int32)  (s : St) (hF : F_X11_numberFor_92 (zg Z) a1 a2 a3 h7_ h100_ v5 x0 s = some R) : AW Z l iX11_numberFor (Pq (rI R)) 0 0 92 [(0, .ref (za Z 60 0)), (1, .int a1), (2, .int a2), (3, .int a3), (5, .int v5)] [.int x0] s := by
  unfold F_X11_numberFor_92 at hF
  refine a_istore [(4, .int x0), (0, .ref (za Z 60 0)), (1, .int a1), (2, .int a2), (3, .int a3), (5, .int v5)] dX11_numberFor_92 (by decide) rfl ?_
  refine a_iinc [(5, .int (v5 + 1)), (4, .int x0), (0, .ref (za Z 60 0)), (1, .int a1), (2, .int a2), (3, .int a3)] dX11_numberFor_94 5 rfl rfl (by decide) rfl ?_
  refine a_goto 7 dX11_numberFor_97 (by decide) ?_
  refine a_loc [(0, .ref (za Z 60 0)), (1, .int a1), (2, .int a2), (3, .int a3), (4, .int x0), (5, .int (v5 + 1))] [2, 3, 4, 5, 1, 0] rfl ?_
  exact w7_ x0 (v5 + 1)  _ hF
def F_X11_numberFor_90 (g : Nat × Nat) (a1 : Int32) (a2 : Int32) (a3 : Int32) (h7_ : Int32 → Int32 → St → Option (Int32 × St)) (h100_ : Int32 → St → Option (Int32 × St)) (v4 : Int32) (v5 : Int32) (s : St) : Option (Int32 × St) := (F_X11_numberFor_92 g a1 a2 a3 h7_ h100_ v5 v4 s)
set_option maxRecDepth 100000 in
set_option maxHeartbeats 4000000 in
theorem w_X11_numberFor_90 {Z : ZE} {l : Launch} (hZ : OkM Z) {a1 : Int32} {a2 : Int32} {a3 : Int32}  {R : Int32 × St} (h7_ : Int32 → Int32 → St → Option (Int32 × St)) (w7_ : ∀ (v4 : Int32) (v5 : Int32)  (s : St), h7_ v4 v5 s = some R → AW Z l iX11_numberFor (Pq (rI R)) 0 0 7 [(0, .ref (za Z 60 0)), (1, .int a1), (2, .int a2), (3, .int a3), (4, .int v4), (5, .int v5)] [] s) (h100_ : Int32 → St → Option (Int32 × St)) (w100_ : ∀ (v4 : Int32)  (s : St), h100_ v4 s = some R → AW Z l iX11_numberFor (Pq (rI R)) 0 0 100 [(0, .ref (za Z 60 0)), (4, .int v4)] [] s) (v4 : Int32) (v5 : Int32)  (s : St) (hF : F_X11_numberFor_90 (zg Z) a1 a2 a3 h7_ h100_ v4 v5 s = some R) : AW Z l iX11_numberFor (Pq (rI R)) 0 0 90 [(0, .ref (za Z 60 0)), (1, .int a1), (2, .int a2), (3, .int a3), (4, .int v4), (5, .int v5)] [] s := by
  unfold F_X11_numberFor_90 at hF
  refine a_iload dX11_numberFor_90 4 rfl ?_
  refine a_loc [(0, .ref (za Z 60 0)), (1, .int a1), (2, .int a2), (3, .int a3), (5, .int v5)] [0, 1, 2, 3, 5] rfl ?_
  exact w_X11_numberFor_92 (l := l) hZ  h7_ w7_ h100_ w100_ v5 v4  _ hF
def F_X11_numberFor_85 (g : Nat × Nat) (a1 : Int32) (a2 : Int32) (a3 : Int32) (h7_ : Int32 → Int32 → St → Option (Int32 × St)) (h100_ : Int32 → St → Option (Int32 × St)) (v5 : Int32) (s : St) : Option (Int32 × St) := (F_X11_numberFor_92 g a1 a2 a3 h7_ h100_ v5 v5 s)
set_option maxRecDepth 100000 in
set_option maxHeartbeats 4000000 in
theorem w_X11_numberFor_85 {Z : ZE} {l : Launch} (hZ : OkM Z) {a1 : Int32} {a2 : Int32} {a3 : Int32}  {R : Int32 × St} (h7_ : Int32 → Int32 → St → Option (Int32 × St)) (w7_ : ∀ (v4 : Int32) (v5 : Int32)  (s : St), h7_ v4 v5 s = some R → AW Z l iX11_numberFor (Pq (rI R)) 0 0 7 [(0, .ref (za Z 60 0)), (1, .int a1), (2, .int a2), (3, .int a3), (4, .int v4), (5, .int v5)] [] s) (h100_ : Int32 → St → Option (Int32 × St)) (w100_ : ∀ (v4 : Int32)  (s : St), h100_ v4 s = some R → AW Z l iX11_numberFor (Pq (rI R)) 0 0 100 [(0, .ref (za Z 60 0)), (4, .int v4)] [] s) (v5 : Int32)  (s : St) (hF : F_X11_numberFor_85 (zg Z) a1 a2 a3 h7_ h100_ v5 s = some R) : AW Z l iX11_numberFor (Pq (rI R)) 0 0 85 [(0, .ref (za Z 60 0)), (1, .int a1), (2, .int a2), (3, .int a3), (5, .int v5)] [] s := by
  unfold F_X11_numberFor_85 at hF
  refine a_iload dX11_numberFor_85 4 rfl ?_
  refine a_goto 92 dX11_numberFor_87 (by decide) ?_
  exact w_X11_numberFor_92 (l := l) hZ  h7_ w7_ h100_ w100_ v5 v5  _ hF
def F_X11_numberFor_54 (g : Nat × Nat) (a1 : Int32) (a2 : Int32) (a3 : Int32) (h7_ : Int32 → Int32 → St → Option (Int32 × St)) (h100_ : Int32 → St → Option (Int32 × St)) (v4 : Int32) (v5 : Int32) (x0 : Int32) (s : St) : Option (Int32 × St) := (if x0 = 0 then (F_X11_numberFor_90 g a1 a2 a3 h7_ h100_ v4 v5 s) else (if v4 = (-1000000) then (F_X11_numberFor_85 g a1 a2 a3 h7_ h100_ v5 s) else (gd (inb v5 30) (gd (inb v4 30) (if (s 78 0 v5.toNatClampNeg) < (s 78 0 v4.toNatClampNeg) then (F_X11_numberFor_90 g a1 a2 a3 h7_ h100_ v4 v5 s) else (F_X11_numberFor_85 g a1 a2 a3 h7_ h100_ v5 s))))))
set_option maxRecDepth 100000 in
set_option maxHeartbeats 4000000 in
theorem w_X11_numberFor_54 {Z : ZE} {l : Launch} (hZ : OkM Z) {a1 : Int32} {a2 : Int32} {a3 : Int32}  {R : Int32 × St} (h7_ : Int32 → Int32 → St → Option (Int32 × St)) (w7_ : ∀ (v4 : Int32) (v5 : Int32)  (s : St), h7_ v4 v5 s = some R → AW Z l iX11_numberFor (Pq (rI R)) 0 0 7 [(0, .ref (za Z 60 0)), (1, .int a1), (2, .int a2), (3, .int a3), (4, .int v4), (5, .int v5)] [] s) (h100_ : Int32 → St → Option (Int32 × St)) (w100_ : ∀ (v4 : Int32)  (s : St), h100_ v4 s = some R → AW Z l iX11_numberFor (Pq (rI R)) 0 0 100 [(0, .ref (za Z 60 0)), (4, .int v4)] [] s) (v4 : Int32) (v5 : Int32) (x0 : Int32)  (s : St) (hF : F_X11_numberFor_54 (zg Z) a1 a2 a3 h7_ h100_ v4 v5 x0 s = some R) : AW Z l iX11_numberFor (Pq (rI R)) 0 0 54 [(0, .ref (za Z 60 0)), (1, .int a1), (2, .int a2), (3, .int a3), (4, .int v4), (5, .int v5)] [.int x0] s := by
  unfold F_X11_numberFor_54 at hF
  refine a_istore [(6, .int x0), (0, .ref (za Z 60 0)), (1, .int a1), (2, .int a2), (3, .int a3), (4, .int v4), (5, .int v5)] dX11_numberFor_54 (by decide) rfl ?_
  refine a_iload dX11_numberFor_56 0 rfl ?_
  refine a_if_eq 90 dX11_numberFor_58 (by decide) (fun c1 => ?_) (fun c1 => ?_)
  · replace hF := (if_pos c1).symm.trans hF
    refine a_loc [(0, .ref (za Z 60 0)), (1, .int a1), (2, .int a2), (3, .int a3), (4, .int v4), (5, .int v5)] [1, 2, 3, 4, 5, 6] rfl ?_
    exact w_X11_numberFor_90 (l := l) hZ  h7_ w7_ h100_ w100_ v4 v5  _ hF
  · replace hF := (if_neg c1).symm.trans hF
    refine a_iload dX11_numberFor_61 5 rfl ?_
    refine a_ldc (v := (-1000000)) kw_951 dX11_numberFor_63 ?_
    refine a_icmp_eq 85 dX11_numberFor_65 (by decide) (fun c2 => ?_) (fun c2 => ?_)
    · replace hF := (if_pos c2).symm.trans hF
      refine a_loc [(0, .ref (za Z 60 0)), (1, .int a1), (2, .int a2), (3, .int a3), (5, .int v5)] [1, 2, 3, 4, 6] rfl ?_
      exact w_X11_numberFor_85 (l := l) hZ  h7_ w7_ h100_ w100_ v5  _ hF
    · replace hF := (if_neg c2).symm.trans hF
      refine a_aload_n dX11_numberFor_68 1 rfl rfl ?_
      refine a_getR hZ.1 (hZ.2 60 0 (by decide) (by decide) Nat.one_pos) fl_X11_73 rfl 0 rfl dX11_numberFor_69 ?_
      refine a_iload dX11_numberFor_72 6 rfl ?_
      obtain ⟨b3, hF⟩ := gd_some hF
      refine a_iald hZ.1 (s 78 0 v5.toNatClampNeg) (hZ.2 78 0 (by decide) (by decide) Nat.one_pos) rfl rfl (inb_vp b3) rfl dX11_numberFor_74 ?_
      refine a_aload_n dX11_numberFor_75 1 rfl rfl ?_
      refine a_getR hZ.1 (hZ.2 60 0 (by decide) (by decide) Nat.one_pos) fl_X11_73 rfl 0 rfl dX11_numberFor_76 ?_
      refine a_iload dX11_numberFor_79 5 rfl ?_
      obtain ⟨b4, hF⟩ := gd_some hF
      refine a_iald hZ.1 (s 78 0 v4.toNatClampNeg) (hZ.2 78 0 (by decide) (by decide) Nat.one_pos) rfl rfl (inb_vp b4) rfl dX11_numberFor_81 ?_
      refine a_icmp_lt 90 dX11_numberFor_82 (by decide) (fun c5 => ?_) (fun c5 => ?_)
      · replace hF := (if_pos c5).symm.trans hF
        refine a_loc [(0, .ref (za Z 60 0)), (1, .int a1), (2, .int a2), (3, .int a3), (4, .int v4), (5, .int v5)] [1, 2, 3, 4, 5, 6] rfl ?_
        exact w_X11_numberFor_90 (l := l) hZ  h7_ w7_ h100_ w100_ v4 v5  _ hF
      · replace hF := (if_neg c5).symm.trans hF
        refine a_loc [(0, .ref (za Z 60 0)), (1, .int a1), (2, .int a2), (3, .int a3), (5, .int v5)] [1, 2, 3, 4, 6] rfl ?_
        exact w_X11_numberFor_85 (l := l) hZ  h7_ w7_ h100_ w100_ v5  _ hF
def F_X11_numberFor_53 (g : Nat × Nat) (a1 : Int32) (a2 : Int32) (a3 : Int32) (h7_ : Int32 → Int32 → St → Option (Int32 × St)) (h100_ : Int32 → St → Option (Int32 × St)) (v4 : Int32) (v5 : Int32) (s : St) : Option (Int32 × St) := (F_X11_numberFor_54 g a1 a2 a3 h7_ h100_ v4 v5 (0 : Int32) s)
set_option maxRecDepth 100000 in
set_option maxHeartbeats 4000000 in
theorem w_X11_numberFor_53 {Z : ZE} {l : Launch} (hZ : OkM Z) {a1 : Int32} {a2 : Int32} {a3 : Int32}  {R : Int32 × St} (h7_ : Int32 → Int32 → St → Option (Int32 × St)) (w7_ : ∀ (v4 : Int32) (v5 : Int32)  (s : St), h7_ v4 v5 s = some R → AW Z l iX11_numberFor (Pq (rI R)) 0 0 7 [(0, .ref (za Z 60 0)), (1, .int a1), (2, .int a2), (3, .int a3), (4, .int v4), (5, .int v5)] [] s) (h100_ : Int32 → St → Option (Int32 × St)) (w100_ : ∀ (v4 : Int32)  (s : St), h100_ v4 s = some R → AW Z l iX11_numberFor (Pq (rI R)) 0 0 100 [(0, .ref (za Z 60 0)), (4, .int v4)] [] s) (v4 : Int32) (v5 : Int32)  (s : St) (hF : F_X11_numberFor_53 (zg Z) a1 a2 a3 h7_ h100_ v4 v5 s = some R) : AW Z l iX11_numberFor (Pq (rI R)) 0 0 53 [(0, .ref (za Z 60 0)), (1, .int a1), (2, .int a2), (3, .int a3), (4, .int v4), (5, .int v5)] [] s := by
  unfold F_X11_numberFor_53 at hF
  refine a_iconst (v := (0 : Int32)) dX11_numberFor_53 (by decide) ?_
  exact w_X11_numberFor_54 (l := l) hZ  h7_ w7_ h100_ w100_ v4 v5 (0 : Int32)  _ hF
def F_X11_numberFor_7 (g : Nat × Nat) (a1 : Int32) (a2 : Int32) (a3 : Int32) (h100_ : Int32 → St → Option (Int32 × St)) : Nat → Int32 → Int32 → St → Option (Int32 × St)
  | 0, _, _, _ => none
  | n_ + 1, v4, v5, s => (if (s 60 0 24) ≤ v5 then (h100_ v4 s) else (gd (inb v5 30) (if (s 79 0 v5.toNatClampNeg) = a2 then (gd (inb v5 30) (if (s 80 0 v5.toNatClampNeg) = a3 then (gd (inb v5 30) (if a1 < (s 78 0 v5.toNatClampNeg) then (F_X11_numberFor_53 g a1 a2 a3 (F_X11_numberFor_7 g a1 a2 a3 h100_ n_) h100_ v4 v5 s) else (F_X11_numberFor_54 g a1 a2 a3 (F_X11_numberFor_7 g a1 a2 a3 h100_ n_) h100_ v4 v5 (1 : Int32) s))) else (F_X11_numberFor_53 g a1 a2 a3 (F_X11_numberFor_7 g a1 a2 a3 h100_ n_) h100_ v4 v5 s))) else (F_X11_numberFor_53 g a1 a2 a3 (F_X11_numberFor_7 g a1 a2 a3 h100_ n_) h100_ v4 v5 s))))
set_option maxRecDepth 100000 in
set_option maxHeartbeats 4000000 in
theorem w_X11_numberFor_7 {Z : ZE} {l : Launch} (hZ : OkM Z) {a1 : Int32} {a2 : Int32} {a3 : Int32}  {R : Int32 × St} (h100_ : Int32 → St → Option (Int32 × St)) (w100_ : ∀ (v4 : Int32)  (s : St), h100_ v4 s = some R → AW Z l iX11_numberFor (Pq (rI R)) 0 0 100 [(0, .ref (za Z 60 0)), (4, .int v4)] [] s) : ∀ (n_ : Nat) (v4 : Int32) (v5 : Int32)  (s : St), F_X11_numberFor_7 (zg Z) a1 a2 a3 h100_ n_ v4 v5 s = some R → AW Z l iX11_numberFor (Pq (rI R)) 0 0 7 [(0, .ref (za Z 60 0)), (1, .int a1), (2, .int a2), (3, .int a3), (4, .int v4), (5, .int v5)] [] s := by
  intro n_
  induction n_ with
  | zero =>
    intro v4 v5 s hF
    exact absurd hF (by rw [F_X11_numberFor_7]; exact fun q => by cases q)
  | succ n_ w7_ =>
    intro v4 v5 s hF
    rw [F_X11_numberFor_7] at hF
    refine a_iload dX11_numberFor_7 5 rfl ?_
    refine a_aload_n dX11_numberFor_9 0 rfl rfl ?_
    refine a_getI hZ.1 (s 60 0 24) (hZ.2 60 0 (by decide) (by decide) Nat.one_pos) fl_X11_286 rfl rfl dX11_numberFor_10 ?_
    refine a_icmp_ge 100 dX11_numberFor_13 (by decide) (fun c1 => ?_) (fun c1 => ?_)
    · replace hF := (if_pos c1).symm.trans hF
      refine a_loc [(0, .ref (za Z 60 0)), (4, .int v4)] [0, 4] rfl ?_
      exact w100_ v4  _ hF
    · replace hF := (if_neg c1).symm.trans hF
      refine a_aload_n dX11_numberFor_16 0 rfl rfl ?_
      refine a_getR hZ.1 (hZ.2 60 0 (by decide) (by decide) Nat.one_pos) fl_X11_76 rfl 0 rfl dX11_numberFor_17 ?_
      refine a_iload dX11_numberFor_20 5 rfl ?_
      obtain ⟨b2, hF⟩ := gd_some hF
      refine a_iald hZ.1 (s 79 0 v5.toNatClampNeg) (hZ.2 79 0 (by decide) (by decide) Nat.one_pos) rfl rfl (inb_vp b2) rfl dX11_numberFor_22 ?_
      refine a_iload_n dX11_numberFor_23 2 rfl rfl ?_
      refine a_icmp_ne 53 dX11_numberFor_24 (by decide) (fun c3 => ?_) (fun c3 => ?_)
      · replace hF := (if_neg c3).symm.trans hF
        exact w_X11_numberFor_53 (l := l) hZ  w7_ h100_ w100_ v4 v5  _ hF
      · replace hF := (if_pos c3).symm.trans hF
        refine a_aload_n dX11_numberFor_27 0 rfl rfl ?_
        refine a_getR hZ.1 (hZ.2 60 0 (by decide) (by decide) Nat.one_pos) fl_X11_79 rfl 0 rfl dX11_numberFor_28 ?_
        refine a_iload dX11_numberFor_31 5 rfl ?_
        obtain ⟨b4, hF⟩ := gd_some hF
        refine a_iald hZ.1 (s 80 0 v5.toNatClampNeg) (hZ.2 80 0 (by decide) (by decide) Nat.one_pos) rfl rfl (inb_vp b4) rfl dX11_numberFor_33 ?_
        refine a_iload_n dX11_numberFor_34 3 rfl rfl ?_
        refine a_icmp_ne 53 dX11_numberFor_35 (by decide) (fun c5 => ?_) (fun c5 => ?_)
        · replace hF := (if_neg c5).symm.trans hF
          exact w_X11_numberFor_53 (l := l) hZ  w7_ h100_ w100_ v4 v5  _ hF
        · replace hF := (if_pos c5).symm.trans hF
          refine a_aload_n dX11_numberFor_38 0 rfl rfl ?_
          refine a_getR hZ.1 (hZ.2 60 0 (by decide) (by decide) Nat.one_pos) fl_X11_73 rfl 0 rfl dX11_numberFor_39 ?_
          refine a_iload dX11_numberFor_42 5 rfl ?_
          obtain ⟨b6, hF⟩ := gd_some hF
          refine a_iald hZ.1 (s 78 0 v5.toNatClampNeg) (hZ.2 78 0 (by decide) (by decide) Nat.one_pos) rfl rfl (inb_vp b6) rfl dX11_numberFor_44 ?_
          refine a_iload_n dX11_numberFor_45 1 rfl rfl ?_
          refine a_icmp_gt 53 dX11_numberFor_46 (by decide) (fun c7 => ?_) (fun c7 => ?_)
          · replace hF := (if_pos c7).symm.trans hF
            exact w_X11_numberFor_53 (l := l) hZ  w7_ h100_ w100_ v4 v5  _ hF
          · replace hF := (if_neg c7).symm.trans hF
            refine a_iconst (v := (1 : Int32)) dX11_numberFor_49 (by decide) ?_
            refine a_goto 54 dX11_numberFor_50 (by decide) ?_
            exact w_X11_numberFor_54 (l := l) hZ  w7_ h100_ w100_ v4 v5 (1 : Int32)  _ hF
def F_X11_numberFor (g : Nat × Nat) (a1 : Int32) (a2 : Int32) (a3 : Int32)   (s : St) : Option (Int32 × St) := ((F_X11_numberFor_7 g a1 a2 a3 (F_X11_numberFor_100 g a1 a2 a3 ) fu) (-1000000) (0 : Int32) s)
set_option maxRecDepth 100000 in
set_option maxHeartbeats 4000000 in
theorem w_X11_numberFor {Z : ZE} {l : Launch} (hZ : OkM Z) {a1 : Int32} {a2 : Int32} {a3 : Int32}  {R : Int32 × St}    (s : St) (hF : F_X11_numberFor (zg Z) a1 a2 a3  s = some R) : AW Z l iX11_numberFor (Pq (rI R)) 0 0 0 [(0, .ref (za Z 60 0)), (1, .int a1), (2, .int a2), (3, .int a3)] [] s := by
  unfold F_X11_numberFor at hF
  refine a_ldc (v := (-1000000)) kw_951 dX11_numberFor_0 ?_
  refine a_istore [(4, .int (-1000000)), (0, .ref (za Z 60 0)), (1, .int a1), (2, .int a2), (3, .int a3)] dX11_numberFor_2 (by decide) rfl ?_
  refine a_iconst (v := (0 : Int32)) dX11_numberFor_4 (by decide) ?_
  refine a_istore [(5, .int (0 : Int32)), (4, .int (-1000000)), (0, .ref (za Z 60 0)), (1, .int a1), (2, .int a2), (3, .int a3)] dX11_numberFor_5 (by decide) rfl ?_
  refine a_loc [(0, .ref (za Z 60 0)), (1, .int a1), (2, .int a2), (3, .int a3), (4, .int (-1000000)), (5, .int (0 : Int32))] [2, 3, 4, 5, 1, 0] rfl ?_
  exact w_X11_numberFor_7 (l := l) hZ  (F_X11_numberFor_100 g a1 a2 a3 ) (w_X11_numberFor_100 (l := l) hZ  ) fu (-1000000) (0 : Int32)  _ hF
theorem m_X11_numberFor {Z : ZE} {l : Launch} (hZ : OkM Z) {a1 : Int32} {a2 : Int32} {a3 : Int32}  {s : St} {R : Int32 × St} (hF : F_X11_numberFor (zg Z) a1 a2 a3 s = some R) : Sp Z l yX11_numberFor iX11_numberFor [.ref (za Z 60 0), .int a1, .int a2, .int a3] s (rI R) :=
  Sp.of (by decide) rfl (by decide) (w_X11_numberFor hZ  s hF)
-- X11_markOf
def F_X11_markOf_91 (g : Nat × Nat) (a1 : Int32)  (v2 : Int32) (x0 : Int32) (x1 : Int32) (s : St) : Option (Int32 × St) := (if v2 = (5 : Int32) then (bd (F_X11_loanSize g a1 s) (fun r101 s101 => (some (((x0 + x1) + r101), s101)))) else (some ((x0 + x1), s)))
set_option maxRecDepth 100000 in
set_option maxHeartbeats 4000000 in
theorem w_X11_markOf_91 {Z : ZE} {l : Launch} (hZ : OkM Z) {a1 : Int32}  {R : Int32 × St}  (v2 : Int32) (x0 : Int32) (x1 : Int32)  (s : St) (hF : F_X11_markOf_91 (zg Z) a1 v2 x0 x1 s = some R) : AW Z l iX11_markOf (Pq (rI R)) 0 0 91 [(0, .ref (za Z 60 0)), (1, .int a1), (2, .int v2)] [.int x1, .int x0] s := by
  unfold F_X11_markOf_91 at hF
  refine a_iadd dX11_markOf_91 ?_
  refine a_istore_n [(3, .int (x0 + x1)), (0, .ref (za Z 60 0)), (1, .int a1), (2, .int v2)] dX11_markOf_92 rfl (by decide) rfl ?_
  refine a_iload_n dX11_markOf_93 3 rfl rfl ?_
  refine a_iconst (v := (5 : Int32)) dX11_markOf_94 (by decide) ?_
  refine a_icmp_ne 108 dX11_markOf_95 (by decide) (fun c1 => ?_) (fun c1 => ?_)
  · replace hF := (if_neg c1).symm.trans hF
    refine a_iload_n dX11_markOf_108 0 rfl rfl ?_
    cases hF
    exact a_iret rfl (Nat.zero_le _) (Nat.zero_le _) dX11_markOf_109 ⟨rfl, rfl⟩
  · replace hF := (if_pos c1).symm.trans hF
    refine a_iload_n dX11_markOf_98 0 rfl rfl ?_
    refine a_aload_n dX11_markOf_99 1 rfl rfl ?_
    refine a_iload_n dX11_markOf_100 2 rfl rfl ?_
    obtain ⟨r101, s101, e101, hF⟩ := bd_some hF
    refine a_invV hZ.1 (As := [.int a1]) (rest := [.int (x0 + x1)]) (hZ.2 60 0 (by decide) (by decide) Nat.one_pos) lk_X11_347 ⟨⟨by decide, by decide⟩, by decide, by decide⟩ rfl (Nat.le_of_ble_eq_true rfl) dX11_markOf_101 (m_X11_loanSize hZ  e101) ?_
    show AW Z l iX11_markOf (Pq (rI R)) 0 0 104 [(3, .int (x0 + x1)), (0, .ref (za Z 60 0)), (1, .int a1), (2, .int v2)] [.int r101, .int (x0 + x1)] s101
    refine a_iadd dX11_markOf_104 ?_
    refine a_goto 109 dX11_markOf_105 (by decide) ?_
    cases hF
    exact a_iret rfl (Nat.zero_le _) (Nat.zero_le _) dX11_markOf_109 ⟨rfl, rfl⟩
def F_X11_markOf_46 (g : Nat × Nat) (a1 : Int32)  (v2 : Int32) (s : St) : Option (Int32 × St) := (bd (F_X11_began g (20 : Int32) s) (fun r49 s49 => (bd (F_X11_isOf g v2 (2 : Int32) s49) (fun r58 s58 => (if r58 = 0 then (bd (F_X11_isOf g v2 (4 : Int32) s58) (fun r71 s71 => (if r71 = 0 then (F_X11_markOf_91 g a1  v2 (s49 60 0 10) (0 : Int32) s71) else (bd (F_X11_numberFor g (s71 60 0 10) (1 : Int32) (0 : Int32) s71) (fun r84 s84 => (F_X11_markOf_91 g a1  v2 (s49 60 0 10) r84 s84)))))) else (F_X11_markOf_91 g a1  v2 (s49 60 0 10) (100 : Int32) s58))))))
set_option maxRecDepth 100000 in
set_option maxHeartbeats 4000000 in
theorem w_X11_markOf_46 {Z : ZE} {l : Launch} (hZ : OkM Z) {a1 : Int32}  {R : Int32 × St}  (v2 : Int32)  (s : St) (hF : F_X11_markOf_46 (zg Z) a1 v2 s = some R) : AW Z l iX11_markOf (Pq (rI R)) 0 0 46 [(0, .ref (za Z 60 0)), (1, .int a1), (2, .int v2)] [] s := by
  unfold F_X11_markOf_46 at hF
  refine a_aload_n dX11_markOf_46 0 rfl rfl ?_
  refine a_bipush (v := (20 : Int32)) dX11_markOf_47 (by decide) ?_
  obtain ⟨r49, s49, e49, hF⟩ := bd_some hF
  refine a_invV hZ.1 (As := [.int (20 : Int32)]) (rest := []) (hZ.2 60 0 (by decide) (by decide) Nat.one_pos) lk_X11_344 ⟨⟨by decide, by decide⟩, by decide, by decide⟩ rfl (Nat.le_of_ble_eq_true rfl) dX11_markOf_49 (m_X11_began hZ  e49) ?_
  show AW Z l iX11_markOf (Pq (rI R)) 0 0 52 [(0, .ref (za Z 60 0)), (1, .int a1), (2, .int v2)] [] s49
  refine a_aload_n dX11_markOf_52 0 rfl rfl ?_
  refine a_getI hZ.1 (s49 60 0 10) (hZ.2 60 0 (by decide) (by decide) Nat.one_pos) fl_X11_188 rfl rfl dX11_markOf_53 ?_
  refine a_iload_n dX11_markOf_56 2 rfl rfl ?_
  refine a_iconst (v := (2 : Int32)) dX11_markOf_57 (by decide) ?_
  obtain ⟨r58, s58, e58, hF⟩ := bd_some hF
  refine a_invS hZ.1 (As := [.int v2, .int (2 : Int32)]) (rest := [.int (s49 60 0 10)]) lk_X11_337 ⟨⟨by decide, by decide⟩, by decide, by decide⟩ rfl (Nat.le_of_ble_eq_true rfl) dX11_markOf_58 (m_X11_isOf hZ  e58) ?_
  show AW Z l iX11_markOf (Pq (rI R)) 0 0 61 [(0, .ref (za Z 60 0)), (1, .int a1), (2, .int v2)] [.int r58, .int (s49 60 0 10)] s58
  refine a_if_eq 69 dX11_markOf_61 (by decide) (fun c1 => ?_) (fun c1 => ?_)
  · replace hF := (if_pos c1).symm.trans hF
    refine a_iload_n dX11_markOf_69 2 rfl rfl ?_
    refine a_iconst (v := (4 : Int32)) dX11_markOf_70 (by decide) ?_
    obtain ⟨r71, s71, e71, hF⟩ := bd_some hF
    refine a_invS hZ.1 (As := [.int v2, .int (4 : Int32)]) (rest := [.int (s49 60 0 10)]) lk_X11_337 ⟨⟨by decide, by decide⟩, by decide, by decide⟩ rfl (Nat.le_of_ble_eq_true rfl) dX11_markOf_71 (m_X11_isOf hZ  e71) ?_
    show AW Z l iX11_markOf (Pq (rI R)) 0 0 74 [(0, .ref (za Z 60 0)), (1, .int a1), (2, .int v2)] [.int r71, .int (s49 60 0 10)] s71
    refine a_if_eq 90 dX11_markOf_74 (by decide) (fun c2 => ?_) (fun c2 => ?_)
    · replace hF := (if_pos c2).symm.trans hF
      refine a_iconst (v := (0 : Int32)) dX11_markOf_90 (by decide) ?_
      exact w_X11_markOf_91 (l := l) hZ   v2 (s49 60 0 10) (0 : Int32)  _ hF
    · replace hF := (if_neg c2).symm.trans hF
      refine a_aload_n dX11_markOf_77 0 rfl rfl ?_
      refine a_aload_n dX11_markOf_78 0 rfl rfl ?_
      refine a_getI hZ.1 (s71 60 0 10) (hZ.2 60 0 (by decide) (by decide) Nat.one_pos) fl_X11_188 rfl rfl dX11_markOf_79 ?_
      refine a_iconst (v := (1 : Int32)) dX11_markOf_82 (by decide) ?_
      refine a_iconst (v := (0 : Int32)) dX11_markOf_83 (by decide) ?_
      obtain ⟨r84, s84, e84, hF⟩ := bd_some hF
      refine a_invV hZ.1 (As := [.int (s71 60 0 10), .int (1 : Int32), .int (0 : Int32)]) (rest := [.int (s49 60 0 10)]) (hZ.2 60 0 (by decide) (by decide) Nat.one_pos) lk_X11_298 ⟨⟨by decide, by decide⟩, by decide, by decide⟩ rfl (Nat.le_of_ble_eq_true rfl) dX11_markOf_84 (m_X11_numberFor hZ  e84) ?_
      show AW Z l iX11_markOf (Pq (rI R)) 0 0 87 [(0, .ref (za Z 60 0)), (1, .int a1), (2, .int v2)] [.int r84, .int (s49 60 0 10)] s84
      refine a_goto 91 dX11_markOf_87 (by decide) ?_
      exact w_X11_markOf_91 (l := l) hZ   v2 (s49 60 0 10) r84  _ hF
  · replace hF := (if_neg c1).symm.trans hF
    refine a_bipush (v := (100 : Int32)) dX11_markOf_64 (by decide) ?_
    refine a_goto 91 dX11_markOf_66 (by decide) ?_
    exact w_X11_markOf_91 (l := l) hZ   v2 (s49 60 0 10) (100 : Int32)  _ hF
def F_X11_markOf_32 (g : Nat × Nat) (a1 : Int32)  (v2 : Int32) (s : St) : Option (Int32 × St) := (bd (F_X11_isOf g v2 (2 : Int32) s) (fun r34 s34 => (if r34 = 0 then (F_X11_markOf_46 g a1  v2 s34) else (bd (F_X11_began g (21 : Int32) s34) (fun r43 s43 => (F_X11_markOf_46 g a1  v2 s43))))))
set_option maxRecDepth 100000 in
set_option maxHeartbeats 4000000 in
theorem w_X11_markOf_32 {Z : ZE} {l : Launch} (hZ : OkM Z) {a1 : Int32}  {R : Int32 × St}  (v2 : Int32)  (s : St) (hF : F_X11_markOf_32 (zg Z) a1 v2 s = some R) : AW Z l iX11_markOf (Pq (rI R)) 0 0 32 [(0, .ref (za Z 60 0)), (1, .int a1), (2, .int v2)] [] s := by
  unfold F_X11_markOf_32 at hF
  refine a_iload_n dX11_markOf_32 2 rfl rfl ?_
  refine a_iconst (v := (2 : Int32)) dX11_markOf_33 (by decide) ?_
  obtain ⟨r34, s34, e34, hF⟩ := bd_some hF
  refine a_invS hZ.1 (As := [.int v2, .int (2 : Int32)]) (rest := []) lk_X11_337 ⟨⟨by decide, by decide⟩, by decide, by decide⟩ rfl (Nat.le_of_ble_eq_true rfl) dX11_markOf_34 (m_X11_isOf hZ  e34) ?_
  show AW Z l iX11_markOf (Pq (rI R)) 0 0 37 [(0, .ref (za Z 60 0)), (1, .int a1), (2, .int v2)] [.int r34] s34
  refine a_if_eq 46 dX11_markOf_37 (by decide) (fun c1 => ?_) (fun c1 => ?_)
  · replace hF := (if_pos c1).symm.trans hF
    exact w_X11_markOf_46 (l := l) hZ   v2  _ hF
  · replace hF := (if_neg c1).symm.trans hF
    refine a_aload_n dX11_markOf_40 0 rfl rfl ?_
    refine a_bipush (v := (21 : Int32)) dX11_markOf_41 (by decide) ?_
    obtain ⟨r43, s43, e43, hF⟩ := bd_some hF
    refine a_invV hZ.1 (As := [.int (21 : Int32)]) (rest := []) (hZ.2 60 0 (by decide) (by decide) Nat.one_pos) lk_X11_344 ⟨⟨by decide, by decide⟩, by decide, by decide⟩ rfl (Nat.le_of_ble_eq_true rfl) dX11_markOf_43 (m_X11_began hZ  e43) ?_
    show AW Z l iX11_markOf (Pq (rI R)) 0 0 46 [(0, .ref (za Z 60 0)), (1, .int a1), (2, .int v2)] [] s43
    exact w_X11_markOf_46 (l := l) hZ   v2  _ hF
def F_X11_markOf_18 (g : Nat × Nat) (a1 : Int32)  (v2 : Int32) (s : St) : Option (Int32 × St) := (bd (F_X11_isOf g v2 (4 : Int32) s) (fun r20 s20 => (if r20 = 0 then (F_X11_markOf_32 g a1  v2 s20) else (bd (F_X11_began g (22 : Int32) s20) (fun r29 s29 => (F_X11_markOf_32 g a1  v2 s29))))))
set_option maxRecDepth 100000 in
set_option maxHeartbeats 4000000 in
theorem w_X11_markOf_18 {Z : ZE} {l : Launch} (hZ : OkM Z) {a1 : Int32}  {R : Int32 × St}  (v2 : Int32)  (s : St) (hF : F_X11_markOf_18 (zg Z) a1 v2 s = some R) : AW Z l iX11_markOf (Pq (rI R)) 0 0 18 [(0, .ref (za Z 60 0)), (1, .int a1), (2, .int v2)] [] s := by
  unfold F_X11_markOf_18 at hF
  refine a_iload_n dX11_markOf_18 2 rfl rfl ?_
  refine a_iconst (v := (4 : Int32)) dX11_markOf_19 (by decide) ?_
  obtain ⟨r20, s20, e20, hF⟩ := bd_some hF
  refine a_invS hZ.1 (As := [.int v2, .int (4 : Int32)]) (rest := []) lk_X11_337 ⟨⟨by decide, by decide⟩, by decide, by decide⟩ rfl (Nat.le_of_ble_eq_true rfl) dX11_markOf_20 (m_X11_isOf hZ  e20) ?_
  show AW Z l iX11_markOf (Pq (rI R)) 0 0 23 [(0, .ref (za Z 60 0)), (1, .int a1), (2, .int v2)] [.int r20] s20
  refine a_if_eq 32 dX11_markOf_23 (by decide) (fun c1 => ?_) (fun c1 => ?_)
  · replace hF := (if_pos c1).symm.trans hF
    exact w_X11_markOf_32 (l := l) hZ   v2  _ hF
  · replace hF := (if_neg c1).symm.trans hF
    refine a_aload_n dX11_markOf_26 0 rfl rfl ?_
    refine a_bipush (v := (22 : Int32)) dX11_markOf_27 (by decide) ?_
    obtain ⟨r29, s29, e29, hF⟩ := bd_some hF
    refine a_invV hZ.1 (As := [.int (22 : Int32)]) (rest := []) (hZ.2 60 0 (by decide) (by decide) Nat.one_pos) lk_X11_344 ⟨⟨by decide, by decide⟩, by decide, by decide⟩ rfl (Nat.le_of_ble_eq_true rfl) dX11_markOf_29 (m_X11_began hZ  e29) ?_
    show AW Z l iX11_markOf (Pq (rI R)) 0 0 32 [(0, .ref (za Z 60 0)), (1, .int a1), (2, .int v2)] [] s29
    exact w_X11_markOf_32 (l := l) hZ   v2  _ hF
def F_X11_markOf (g : Nat × Nat) (a1 : Int32)   (s : St) : Option (Int32 × St) := (gd (inb a1 16) (if (s 88 0 a1.toNatClampNeg) = (5 : Int32) then (bd (F_X11_began g (23 : Int32) s) (fun r15 s15 => (F_X11_markOf_18 g a1  (s 88 0 a1.toNatClampNeg) s15))) else (F_X11_markOf_18 g a1  (s 88 0 a1.toNatClampNeg) s)))
set_option maxRecDepth 100000 in
set_option maxHeartbeats 4000000 in
theorem w_X11_markOf {Z : ZE} {l : Launch} (hZ : OkM Z) {a1 : Int32}  {R : Int32 × St}    (s : St) (hF : F_X11_markOf (zg Z) a1  s = some R) : AW Z l iX11_markOf (Pq (rI R)) 0 0 0 [(0, .ref (za Z 60 0)), (1, .int a1)] [] s := by
  unfold F_X11_markOf at hF
  refine a_aload_n dX11_markOf_0 0 rfl rfl ?_
  refine a_getR hZ.1 (hZ.2 60 0 (by decide) (by decide) Nat.one_pos) fl_X11_103 rfl 0 rfl dX11_markOf_1 ?_
  refine a_iload_n dX11_markOf_4 1 rfl rfl ?_
  obtain ⟨b1, hF⟩ := gd_some hF
  refine a_iald hZ.1 (s 88 0 a1.toNatClampNeg) (hZ.2 88 0 (by decide) (by decide) Nat.one_pos) rfl rfl (inb_vp b1) rfl dX11_markOf_5 ?_
  refine a_istore_n [(2, .int (s 88 0 a1.toNatClampNeg)), (0, .ref (za Z 60 0)), (1, .int a1)] dX11_markOf_6 rfl (by decide) rfl ?_
  refine a_iload_n dX11_markOf_7 0 rfl rfl ?_
  refine a_iconst (v := (5 : Int32)) dX11_markOf_8 (by decide) ?_
  refine a_icmp_ne 18 dX11_markOf_9 (by decide) (fun c2 => ?_) (fun c2 => ?_)
  · replace hF := (if_neg c2).symm.trans hF
    refine a_loc [(0, .ref (za Z 60 0)), (1, .int a1), (2, .int (s 88 0 a1.toNatClampNeg))] [1, 2, 0] rfl ?_
    exact w_X11_markOf_18 (l := l) hZ   (s 88 0 a1.toNatClampNeg)  _ hF
  · replace hF := (if_pos c2).symm.trans hF
    refine a_aload_n dX11_markOf_12 1 rfl rfl ?_
    refine a_bipush (v := (23 : Int32)) dX11_markOf_13 (by decide) ?_
    obtain ⟨r15, s15, e15, hF⟩ := bd_some hF
    refine a_invV hZ.1 (As := [.int (23 : Int32)]) (rest := []) (hZ.2 60 0 (by decide) (by decide) Nat.one_pos) lk_X11_344 ⟨⟨by decide, by decide⟩, by decide, by decide⟩ rfl (Nat.le_of_ble_eq_true rfl) dX11_markOf_15 (m_X11_began hZ  e15) ?_
    show AW Z l iX11_markOf (Pq (rI R)) 0 0 18 [(2, .int (s 88 0 a1.toNatClampNeg)), (0, .ref (za Z 60 0)), (1, .int a1)] [] s15
    refine a_loc [(0, .ref (za Z 60 0)), (1, .int a1), (2, .int (s 88 0 a1.toNatClampNeg))] [1, 2, 0] rfl ?_
    exact w_X11_markOf_18 (l := l) hZ   (s 88 0 a1.toNatClampNeg)  _ hF
theorem m_X11_markOf {Z : ZE} {l : Launch} (hZ : OkM Z) {a1 : Int32}  {s : St} {R : Int32 × St} (hF : F_X11_markOf (zg Z) a1 s = some R) : Sp Z l yX11_markOf iX11_markOf [.ref (za Z 60 0), .int a1] s (rI R) :=
  Sp.of (by decide) rfl (by decide) (w_X11_markOf hZ  s hF)
-- X11_sizeBy
def F_X11_sizeBy_112 (g : Nat × Nat) (a1 : Int32)  (v2 : Int32) (x0 : Int32) (x1 : Int32) (s : St) : Option (Int32 × St) := (if v2 = (3 : Int32) then (some (((2 : Int32) * (x0 + x1)), s)) else (some ((x0 + x1), s)))
set_option maxRecDepth 100000 in
set_option maxHeartbeats 4000000 in
theorem w_X11_sizeBy_112 {Z : ZE} {l : Launch} (hZ : OkM Z) {a1 : Int32}  {R : Int32 × St}  (v2 : Int32) (x0 : Int32) (x1 : Int32)  (s : St) (hF : F_X11_sizeBy_112 (zg Z) a1 v2 x0 x1 s = some R) : AW Z l iX11_sizeBy (Pq (rI R)) 0 0 112 [(2, .int v2)] [.int x1, .int x0] s := by
  unfold F_X11_sizeBy_112 at hF
  refine a_iadd dX11_sizeBy_112 ?_
  refine a_istore_n [(3, .int (x0 + x1)), (2, .int v2)] dX11_sizeBy_113 rfl (by decide) rfl ?_
  refine a_iload_n dX11_sizeBy_114 1 rfl rfl ?_
  refine a_iconst (v := (3 : Int32)) dX11_sizeBy_115 (by decide) ?_
  refine a_icmp_ne 125 dX11_sizeBy_116 (by decide) (fun c1 => ?_) (fun c1 => ?_)
  · replace hF := (if_neg c1).symm.trans hF
    refine a_iload_n dX11_sizeBy_125 0 rfl rfl ?_
    cases hF
    exact a_iret rfl (Nat.zero_le _) (Nat.zero_le _) dX11_sizeBy_126 ⟨rfl, rfl⟩
  · replace hF := (if_pos c1).symm.trans hF
    refine a_iconst (v := (2 : Int32)) dX11_sizeBy_119 (by decide) ?_
    refine a_iload_n dX11_sizeBy_120 0 rfl rfl ?_
    refine a_imul dX11_sizeBy_121 ?_
    refine a_goto 126 dX11_sizeBy_122 (by decide) ?_
    cases hF
    exact a_iret rfl (Nat.zero_le _) (Nat.zero_le _) dX11_sizeBy_126 ⟨rfl, rfl⟩
def F_X11_sizeBy_86 (g : Nat × Nat) (a1 : Int32)  (v2 : Int32) (x0 : Int32) (x1 : Int32) (s : St) : Option (Int32 × St) := (bd (F_X11_isOf g v2 (2 : Int32) s) (fun r91 s91 => (if r91 = 0 then (F_X11_sizeBy_112 g a1  v2 (x0 + x1) (0 : Int32) s91) else (gd (inb a1 16) (gd (inb (s91 90 0 a1.toNatClampNeg) 16) (F_X11_sizeBy_112 g a1  v2 (x0 + x1) (s91 89 0 (s91 90 0 a1.toNatClampNeg).toNatClampNeg) s91))))))
set_option maxRecDepth 100000 in
set_option maxHeartbeats 4000000 in
theorem w_X11_sizeBy_86 {Z : ZE} {l : Launch} (hZ : OkM Z) {a1 : Int32}  {R : Int32 × St}  (v2 : Int32) (x0 : Int32) (x1 : Int32)  (s : St) (hF : F_X11_sizeBy_86 (zg Z) a1 v2 x0 x1 s = some R) : AW Z l iX11_sizeBy (Pq (rI R)) 0 0 86 [(0, .ref (za Z 60 0)), (1, .int a1), (2, .int v2)] [.int x1, .int x0] s := by
  unfold F_X11_sizeBy_86 at hF
  refine a_iadd dX11_sizeBy_86 ?_
  refine a_istore_n [(3, .int (x0 + x1)), (0, .ref (za Z 60 0)), (1, .int a1), (2, .int v2)] dX11_sizeBy_87 rfl (by decide) rfl ?_
  refine a_iload_n dX11_sizeBy_88 0 rfl rfl ?_
  refine a_iload_n dX11_sizeBy_89 3 rfl rfl ?_
  refine a_iconst (v := (2 : Int32)) dX11_sizeBy_90 (by decide) ?_
  obtain ⟨r91, s91, e91, hF⟩ := bd_some hF
  refine a_invS hZ.1 (As := [.int v2, .int (2 : Int32)]) (rest := [.int (x0 + x1)]) lk_X11_337 ⟨⟨by decide, by decide⟩, by decide, by decide⟩ rfl (Nat.le_of_ble_eq_true rfl) dX11_sizeBy_91 (m_X11_isOf hZ  e91) ?_
  show AW Z l iX11_sizeBy (Pq (rI R)) 0 0 94 [(3, .int (x0 + x1)), (0, .ref (za Z 60 0)), (1, .int a1), (2, .int v2)] [.int r91, .int (x0 + x1)] s91
  refine a_if_eq 111 dX11_sizeBy_94 (by decide) (fun c1 => ?_) (fun c1 => ?_)
  · replace hF := (if_pos c1).symm.trans hF
    refine a_iconst (v := (0 : Int32)) dX11_sizeBy_111 (by decide) ?_
    refine a_loc [(2, .int v2)] [3] rfl ?_
    exact w_X11_sizeBy_112 (l := l) hZ   v2 (x0 + x1) (0 : Int32)  _ hF
  · replace hF := (if_neg c1).symm.trans hF
    refine a_aload_n dX11_sizeBy_97 1 rfl rfl ?_
    refine a_getR hZ.1 (hZ.2 60 0 (by decide) (by decide) Nat.one_pos) fl_X11_106 rfl 0 rfl dX11_sizeBy_98 ?_
    refine a_aload_n dX11_sizeBy_101 1 rfl rfl ?_
    refine a_getR hZ.1 (hZ.2 60 0 (by decide) (by decide) Nat.one_pos) fl_X11_109 rfl 0 rfl dX11_sizeBy_102 ?_
    refine a_iload_n dX11_sizeBy_105 2 rfl rfl ?_
    obtain ⟨b2, hF⟩ := gd_some hF
    refine a_iald hZ.1 (s91 90 0 a1.toNatClampNeg) (hZ.2 90 0 (by decide) (by decide) Nat.one_pos) rfl rfl (inb_vp b2) rfl dX11_sizeBy_106 ?_
    obtain ⟨b3, hF⟩ := gd_some hF
    refine a_iald hZ.1 (s91 89 0 (s91 90 0 a1.toNatClampNeg).toNatClampNeg) (hZ.2 89 0 (by decide) (by decide) Nat.one_pos) rfl rfl (inb_vp b3) rfl dX11_sizeBy_107 ?_
    refine a_goto 112 dX11_sizeBy_108 (by decide) ?_
    refine a_loc [(2, .int v2)] [3] rfl ?_
    exact w_X11_sizeBy_112 (l := l) hZ   v2 (x0 + x1) (s91 89 0 (s91 90 0 a1.toNatClampNeg).toNatClampNeg)  _ hF
def F_X11_sizeBy_57 (g : Nat × Nat) (a1 : Int32)  (v2 : Int32) (s : St) : Option (Int32 × St) := (bd (F_X11_began g (10 : Int32) s) (fun r60 s60 => (gd (inb a1 16) (bd (F_X11_isOf g v2 (1 : Int32) s60) (fun r71 s71 => (if r71 = 0 then (F_X11_sizeBy_86 g a1  v2 (s60 89 0 a1.toNatClampNeg) (0 : Int32) s71) else (bd (F_X11_markOf g a1 s71) (fun r79 s79 => (F_X11_sizeBy_86 g a1  v2 (s60 89 0 a1.toNatClampNeg) r79 s79)))))))))
set_option maxRecDepth 100000 in
set_option maxHeartbeats 4000000 in
theorem w_X11_sizeBy_57 {Z : ZE} {l : Launch} (hZ : OkM Z) {a1 : Int32}  {R : Int32 × St}  (v2 : Int32)  (s : St) (hF : F_X11_sizeBy_57 (zg Z) a1 v2 s = some R) : AW Z l iX11_sizeBy (Pq (rI R)) 0 0 57 [(0, .ref (za Z 60 0)), (1, .int a1), (2, .int v2)] [] s := by
  unfold F_X11_sizeBy_57 at hF
  refine a_aload_n dX11_sizeBy_57 0 rfl rfl ?_
  refine a_bipush (v := (10 : Int32)) dX11_sizeBy_58 (by decide) ?_
  obtain ⟨r60, s60, e60, hF⟩ := bd_some hF
  refine a_invV hZ.1 (As := [.int (10 : Int32)]) (rest := []) (hZ.2 60 0 (by decide) (by decide) Nat.one_pos) lk_X11_344 ⟨⟨by decide, by decide⟩, by decide, by decide⟩ rfl (Nat.le_of_ble_eq_true rfl) dX11_sizeBy_60 (m_X11_began hZ  e60) ?_
  show AW Z l iX11_sizeBy (Pq (rI R)) 0 0 63 [(0, .ref (za Z 60 0)), (1, .int a1), (2, .int v2)] [] s60
  refine a_aload_n dX11_sizeBy_63 0 rfl rfl ?_
  refine a_getR hZ.1 (hZ.2 60 0 (by decide) (by decide) Nat.one_pos) fl_X11_106 rfl 0 rfl dX11_sizeBy_64 ?_
  refine a_iload_n dX11_sizeBy_67 1 rfl rfl ?_
  obtain ⟨b1, hF⟩ := gd_some hF
  refine a_iald hZ.1 (s60 89 0 a1.toNatClampNeg) (hZ.2 89 0 (by decide) (by decide) Nat.one_pos) rfl rfl (inb_vp b1) rfl dX11_sizeBy_68 ?_
  refine a_iload_n dX11_sizeBy_69 2 rfl rfl ?_
  refine a_iconst (v := (1 : Int32)) dX11_sizeBy_70 (by decide) ?_
  obtain ⟨r71, s71, e71, hF⟩ := bd_some hF
  refine a_invS hZ.1 (As := [.int v2, .int (1 : Int32)]) (rest := [.int (s60 89 0 a1.toNatClampNeg)]) lk_X11_337 ⟨⟨by decide, by decide⟩, by decide, by decide⟩ rfl (Nat.le_of_ble_eq_true rfl) dX11_sizeBy_71 (m_X11_isOf hZ  e71) ?_
  show AW Z l iX11_sizeBy (Pq (rI R)) 0 0 74 [(0, .ref (za Z 60 0)), (1, .int a1), (2, .int v2)] [.int r71, .int (s60 89 0 a1.toNatClampNeg)] s71
  refine a_if_eq 85 dX11_sizeBy_74 (by decide) (fun c2 => ?_) (fun c2 => ?_)
  · replace hF := (if_pos c2).symm.trans hF
    refine a_iconst (v := (0 : Int32)) dX11_sizeBy_85 (by decide) ?_
    exact w_X11_sizeBy_86 (l := l) hZ   v2 (s60 89 0 a1.toNatClampNeg) (0 : Int32)  _ hF
  · replace hF := (if_neg c2).symm.trans hF
    refine a_aload_n dX11_sizeBy_77 0 rfl rfl ?_
    refine a_iload_n dX11_sizeBy_78 1 rfl rfl ?_
    obtain ⟨r79, s79, e79, hF⟩ := bd_some hF
    refine a_invV hZ.1 (As := [.int a1]) (rest := [.int (s60 89 0 a1.toNatClampNeg)]) (hZ.2 60 0 (by decide) (by decide) Nat.one_pos) lk_X11_350 ⟨⟨by decide, by decide⟩, by decide, by decide⟩ rfl (Nat.le_of_ble_eq_true rfl) dX11_sizeBy_79 (m_X11_markOf hZ  e79) ?_
    show AW Z l iX11_sizeBy (Pq (rI R)) 0 0 82 [(0, .ref (za Z 60 0)), (1, .int a1), (2, .int v2)] [.int r79, .int (s60 89 0 a1.toNatClampNeg)] s79
    refine a_goto 86 dX11_sizeBy_82 (by decide) ?_
    exact w_X11_sizeBy_86 (l := l) hZ   v2 (s60 89 0 a1.toNatClampNeg) r79  _ hF
def F_X11_sizeBy_43 (g : Nat × Nat) (a1 : Int32)  (v2 : Int32) (s : St) : Option (Int32 × St) := (bd (F_X11_isOf g v2 (1 : Int32) s) (fun r45 s45 => (if r45 = 0 then (F_X11_sizeBy_57 g a1  v2 s45) else (bd (F_X11_began g (11 : Int32) s45) (fun r54 s54 => (F_X11_sizeBy_57 g a1  v2 s54))))))
set_option maxRecDepth 100000 in
set_option maxHeartbeats 4000000 in
theorem w_X11_sizeBy_43 {Z : ZE} {l : Launch} (hZ : OkM Z) {a1 : Int32}  {R : Int32 × St}  (v2 : Int32)  (s : St) (hF : F_X11_sizeBy_43 (zg Z) a1 v2 s = some R) : AW Z l iX11_sizeBy (Pq (rI R)) 0 0 43 [(0, .ref (za Z 60 0)), (1, .int a1), (2, .int v2)] [] s := by
  unfold F_X11_sizeBy_43 at hF
  refine a_iload_n dX11_sizeBy_43 2 rfl rfl ?_
  refine a_iconst (v := (1 : Int32)) dX11_sizeBy_44 (by decide) ?_
  obtain ⟨r45, s45, e45, hF⟩ := bd_some hF
  refine a_invS hZ.1 (As := [.int v2, .int (1 : Int32)]) (rest := []) lk_X11_337 ⟨⟨by decide, by decide⟩, by decide, by decide⟩ rfl (Nat.le_of_ble_eq_true rfl) dX11_sizeBy_45 (m_X11_isOf hZ  e45) ?_
  show AW Z l iX11_sizeBy (Pq (rI R)) 0 0 48 [(0, .ref (za Z 60 0)), (1, .int a1), (2, .int v2)] [.int r45] s45
  refine a_if_eq 57 dX11_sizeBy_48 (by decide) (fun c1 => ?_) (fun c1 => ?_)
  · replace hF := (if_pos c1).symm.trans hF
    exact w_X11_sizeBy_57 (l := l) hZ   v2  _ hF
  · replace hF := (if_neg c1).symm.trans hF
    refine a_aload_n dX11_sizeBy_51 0 rfl rfl ?_
    refine a_bipush (v := (11 : Int32)) dX11_sizeBy_52 (by decide) ?_
    obtain ⟨r54, s54, e54, hF⟩ := bd_some hF
    refine a_invV hZ.1 (As := [.int (11 : Int32)]) (rest := []) (hZ.2 60 0 (by decide) (by decide) Nat.one_pos) lk_X11_344 ⟨⟨by decide, by decide⟩, by decide, by decide⟩ rfl (Nat.le_of_ble_eq_true rfl) dX11_sizeBy_54 (m_X11_began hZ  e54) ?_
    show AW Z l iX11_sizeBy (Pq (rI R)) 0 0 57 [(0, .ref (za Z 60 0)), (1, .int a1), (2, .int v2)] [] s54
    exact w_X11_sizeBy_57 (l := l) hZ   v2  _ hF
def F_X11_sizeBy_29 (g : Nat × Nat) (a1 : Int32)  (v2 : Int32) (s : St) : Option (Int32 × St) := (bd (F_X11_isOf g v2 (2 : Int32) s) (fun r31 s31 => (if r31 = 0 then (F_X11_sizeBy_43 g a1  v2 s31) else (bd (F_X11_began g (12 : Int32) s31) (fun r40 s40 => (F_X11_sizeBy_43 g a1  v2 s40))))))
set_option maxRecDepth 100000 in
set_option maxHeartbeats 4000000 in
theorem w_X11_sizeBy_29 {Z : ZE} {l : Launch} (hZ : OkM Z) {a1 : Int32}  {R : Int32 × St}  (v2 : Int32)  (s : St) (hF : F_X11_sizeBy_29 (zg Z) a1 v2 s = some R) : AW Z l iX11_sizeBy (Pq (rI R)) 0 0 29 [(0, .ref (za Z 60 0)), (1, .int a1), (2, .int v2)] [] s := by
  unfold F_X11_sizeBy_29 at hF
  refine a_iload_n dX11_sizeBy_29 2 rfl rfl ?_
  refine a_iconst (v := (2 : Int32)) dX11_sizeBy_30 (by decide) ?_
  obtain ⟨r31, s31, e31, hF⟩ := bd_some hF
  refine a_invS hZ.1 (As := [.int v2, .int (2 : Int32)]) (rest := []) lk_X11_337 ⟨⟨by decide, by decide⟩, by decide, by decide⟩ rfl (Nat.le_of_ble_eq_true rfl) dX11_sizeBy_31 (m_X11_isOf hZ  e31) ?_
  show AW Z l iX11_sizeBy (Pq (rI R)) 0 0 34 [(0, .ref (za Z 60 0)), (1, .int a1), (2, .int v2)] [.int r31] s31
  refine a_if_eq 43 dX11_sizeBy_34 (by decide) (fun c1 => ?_) (fun c1 => ?_)
  · replace hF := (if_pos c1).symm.trans hF
    exact w_X11_sizeBy_43 (l := l) hZ   v2  _ hF
  · replace hF := (if_neg c1).symm.trans hF
    refine a_aload_n dX11_sizeBy_37 0 rfl rfl ?_
    refine a_bipush (v := (12 : Int32)) dX11_sizeBy_38 (by decide) ?_
    obtain ⟨r40, s40, e40, hF⟩ := bd_some hF
    refine a_invV hZ.1 (As := [.int (12 : Int32)]) (rest := []) (hZ.2 60 0 (by decide) (by decide) Nat.one_pos) lk_X11_344 ⟨⟨by decide, by decide⟩, by decide, by decide⟩ rfl (Nat.le_of_ble_eq_true rfl) dX11_sizeBy_40 (m_X11_began hZ  e40) ?_
    show AW Z l iX11_sizeBy (Pq (rI R)) 0 0 43 [(0, .ref (za Z 60 0)), (1, .int a1), (2, .int v2)] [] s40
    exact w_X11_sizeBy_43 (l := l) hZ   v2  _ hF
def F_X11_sizeBy (g : Nat × Nat) (a1 : Int32)   (s : St) : Option (Int32 × St) := (gd (inb a1 16) (if (s 88 0 a1.toNatClampNeg) = (5 : Int32) then (bd (F_X11_loanSize g a1 s) (fun r14 s14 => (some (r14, s14)))) else (if (s 88 0 a1.toNatClampNeg) = (3 : Int32) then (bd (F_X11_began g (13 : Int32) s) (fun r26 s26 => (F_X11_sizeBy_29 g a1  (s 88 0 a1.toNatClampNeg) s26))) else (F_X11_sizeBy_29 g a1  (s 88 0 a1.toNatClampNeg) s))))
set_option maxRecDepth 100000 in
set_option maxHeartbeats 4000000 in
theorem w_X11_sizeBy {Z : ZE} {l : Launch} (hZ : OkM Z) {a1 : Int32}  {R : Int32 × St}    (s : St) (hF : F_X11_sizeBy (zg Z) a1  s = some R) : AW Z l iX11_sizeBy (Pq (rI R)) 0 0 0 [(0, .ref (za Z 60 0)), (1, .int a1)] [] s := by
  unfold F_X11_sizeBy at hF
  refine a_aload_n dX11_sizeBy_0 0 rfl rfl ?_
  refine a_getR hZ.1 (hZ.2 60 0 (by decide) (by decide) Nat.one_pos) fl_X11_103 rfl 0 rfl dX11_sizeBy_1 ?_
  refine a_iload_n dX11_sizeBy_4 1 rfl rfl ?_
  obtain ⟨b1, hF⟩ := gd_some hF
  refine a_iald hZ.1 (s 88 0 a1.toNatClampNeg) (hZ.2 88 0 (by decide) (by decide) Nat.one_pos) rfl rfl (inb_vp b1) rfl dX11_sizeBy_5 ?_
  refine a_istore_n [(2, .int (s 88 0 a1.toNatClampNeg)), (0, .ref (za Z 60 0)), (1, .int a1)] dX11_sizeBy_6 rfl (by decide) rfl ?_
  refine a_iload_n dX11_sizeBy_7 0 rfl rfl ?_
  refine a_iconst (v := (5 : Int32)) dX11_sizeBy_8 (by decide) ?_
  refine a_icmp_ne 18 dX11_sizeBy_9 (by decide) (fun c2 => ?_) (fun c2 => ?_)
  · replace hF := (if_neg c2).symm.trans hF
    refine a_iload_n dX11_sizeBy_18 0 rfl rfl ?_
    refine a_iconst (v := (3 : Int32)) dX11_sizeBy_19 (by decide) ?_
    refine a_icmp_ne 29 dX11_sizeBy_20 (by decide) (fun c3 => ?_) (fun c3 => ?_)
    · replace hF := (if_neg c3).symm.trans hF
      refine a_loc [(0, .ref (za Z 60 0)), (1, .int a1), (2, .int (s 88 0 a1.toNatClampNeg))] [1, 2, 0] rfl ?_
      exact w_X11_sizeBy_29 (l := l) hZ   (s 88 0 a1.toNatClampNeg)  _ hF
    · replace hF := (if_pos c3).symm.trans hF
      refine a_aload_n dX11_sizeBy_23 1 rfl rfl ?_
      refine a_bipush (v := (13 : Int32)) dX11_sizeBy_24 (by decide) ?_
      obtain ⟨r26, s26, e26, hF⟩ := bd_some hF
      refine a_invV hZ.1 (As := [.int (13 : Int32)]) (rest := []) (hZ.2 60 0 (by decide) (by decide) Nat.one_pos) lk_X11_344 ⟨⟨by decide, by decide⟩, by decide, by decide⟩ rfl (Nat.le_of_ble_eq_true rfl) dX11_sizeBy_26 (m_X11_began hZ  e26) ?_
      show AW Z l iX11_sizeBy (Pq (rI R)) 0 0 29 [(2, .int (s 88 0 a1.toNatClampNeg)), (0, .ref (za Z 60 0)), (1, .int a1)] [] s26
      refine a_loc [(0, .ref (za Z 60 0)), (1, .int a1), (2, .int (s 88 0 a1.toNatClampNeg))] [1, 2, 0] rfl ?_
      exact w_X11_sizeBy_29 (l := l) hZ   (s 88 0 a1.toNatClampNeg)  _ hF
  · replace hF := (if_pos c2).symm.trans hF
    refine a_aload_n dX11_sizeBy_12 1 rfl rfl ?_
    refine a_iload_n dX11_sizeBy_13 2 rfl rfl ?_
    obtain ⟨r14, s14, e14, hF⟩ := bd_some hF
    refine a_invV hZ.1 (As := [.int a1]) (rest := []) (hZ.2 60 0 (by decide) (by decide) Nat.one_pos) lk_X11_347 ⟨⟨by decide, by decide⟩, by decide, by decide⟩ rfl (Nat.le_of_ble_eq_true rfl) dX11_sizeBy_14 (m_X11_loanSize hZ  e14) ?_
    show AW Z l iX11_sizeBy (Pq (rI R)) 0 0 17 [(2, .int (s 88 0 a1.toNatClampNeg)), (0, .ref (za Z 60 0)), (1, .int a1)] [.int r14] s14
    cases hF
    exact a_iret rfl (Nat.zero_le _) (Nat.zero_le _) dX11_sizeBy_17 ⟨rfl, rfl⟩
theorem m_X11_sizeBy {Z : ZE} {l : Launch} (hZ : OkM Z) {a1 : Int32}  {s : St} {R : Int32 × St} (hF : F_X11_sizeBy (zg Z) a1 s = some R) : Sp Z l yX11_sizeBy iX11_sizeBy [.ref (za Z 60 0), .int a1] s (rI R) :=
  Sp.of (by decide) rfl (by decide) (w_X11_sizeBy hZ  s hF)
-- X11_ask
def F_X11_ask (g : Nat × Nat) (a1 : Int32) (a2 : Int32)   (s : St) : Option (Int32 × St) := (bd (F_X11_isThing g a1 (up s 60 0 0 (0 : Int32))) (fun r7 s7 => (if r7 = 0 then (some ((-1000001), s7)) else (bd (F_X11_in g a2.toInt64 (0 : Int64) (1 : Int64) s7) (fun r17 s17 => (if r17 = 0 then (some ((-1000001), s17)) else (if a2 = 0 then (bd (F_X11_sizeBy g a1 (up s17 60 0 56 (0 : Int32))) (fun r37 s37 => (some (r37, s37)))) else (bd (F_X11_markOf g a1 (up s17 60 0 56 (0 : Int32))) (fun r45 s45 => (some (r45, s45)))))))))))
set_option maxRecDepth 100000 in
set_option maxHeartbeats 4000000 in
theorem w_X11_ask {Z : ZE} {l : Launch} (hZ : OkM Z) {a1 : Int32} {a2 : Int32}  {R : Int32 × St}    (s : St) (hF : F_X11_ask (zg Z) a1 a2  s = some R) : AW Z l iX11_ask (Pq (rI R)) 0 0 0 [(0, .ref (za Z 60 0)), (1, .int a1), (2, .int a2)] [] s := by
  unfold F_X11_ask at hF
  refine a_aload_n dX11_ask_0 0 rfl rfl ?_
  refine a_iconst (v := (0 : Int32)) dX11_ask_1 (by decide) ?_
  refine a_put hZ.1 (hZ.2 60 0 (by decide) (by decide) Nat.one_pos) fl_X11_1 rfl rfl rfl dX11_ask_2 ?_
  refine a_aload_n dX11_ask_5 0 rfl rfl ?_
  refine a_iload_n dX11_ask_6 1 rfl rfl ?_
  obtain ⟨r7, s7, e7, hF⟩ := bd_some hF
  refine a_invV hZ.1 (As := [.int a1]) (rest := []) (hZ.2 60 0 (by decide) (by decide) Nat.one_pos) lk_X11_329 ⟨⟨by decide, by decide⟩, by decide, by decide⟩ rfl (Nat.le_of_ble_eq_true rfl) dX11_ask_7 (m_X11_isThing hZ  e7) ?_
  show AW Z l iX11_ask (Pq (rI R)) 0 0 10 [(0, .ref (za Z 60 0)), (1, .int a1), (2, .int a2)] [.int r7] s7
  refine a_if_eq 23 dX11_ask_10 (by decide) (fun c1 => ?_) (fun c1 => ?_)
  · replace hF := (if_pos c1).symm.trans hF
    refine a_ldc (v := (-1000001)) kw_1136 dX11_ask_23 ?_
    cases hF
    exact a_iret rfl (Nat.zero_le _) (Nat.zero_le _) dX11_ask_25 ⟨rfl, rfl⟩
  · replace hF := (if_neg c1).symm.trans hF
    refine a_iload_n dX11_ask_13 2 rfl rfl ?_
    refine a_i2l dX11_ask_14 ?_
    refine a_lconst (v := (0 : Int64)) dX11_ask_15 (by decide) ?_
    refine a_lconst (v := (1 : Int64)) dX11_ask_16 (by decide) ?_
    obtain ⟨r17, s17, e17, hF⟩ := bd_some hF
    refine a_invS hZ.1 (As := [.long a2.toInt64, .long (0 : Int64), .long (1 : Int64)]) (rest := []) lk_X11_126 ⟨⟨by decide, by decide⟩, by decide, by decide⟩ rfl (Nat.le_of_ble_eq_true rfl) dX11_ask_17 (m_X11_in hZ  e17) ?_
    show AW Z l iX11_ask (Pq (rI R)) 0 0 20 [(0, .ref (za Z 60 0)), (1, .int a1), (2, .int a2)] [.int r17] s17
    refine a_if_ne 26 dX11_ask_20 (by decide) (fun c2 => ?_) (fun c2 => ?_)
    · replace hF := (if_neg c2).symm.trans hF
      refine a_aload_n dX11_ask_26 0 rfl rfl ?_
      refine a_iconst (v := (0 : Int32)) dX11_ask_27 (by decide) ?_
      refine a_put hZ.1 (hZ.2 60 0 (by decide) (by decide) Nat.one_pos) fl_X11_341 rfl rfl rfl dX11_ask_28 ?_
      refine a_iload_n dX11_ask_31 2 rfl rfl ?_
      refine a_if_ne 43 dX11_ask_32 (by decide) (fun c3 => ?_) (fun c3 => ?_)
      · replace hF := (if_neg c3).symm.trans hF
        refine a_aload_n dX11_ask_43 0 rfl rfl ?_
        refine a_iload_n dX11_ask_44 1 rfl rfl ?_
        obtain ⟨r45, s45, e45, hF⟩ := bd_some hF
        refine a_invV hZ.1 (As := [.int a1]) (rest := []) (hZ.2 60 0 (by decide) (by decide) Nat.one_pos) lk_X11_350 ⟨⟨by decide, by decide⟩, by decide, by decide⟩ rfl (Nat.le_of_ble_eq_true rfl) dX11_ask_45 (m_X11_markOf hZ  e45) ?_
        show AW Z l iX11_ask (Pq (rI R)) 0 0 48 [(0, .ref (za Z 60 0)), (1, .int a1), (2, .int a2)] [.int r45] s45
        cases hF
        exact a_iret rfl (Nat.zero_le _) (Nat.zero_le _) dX11_ask_48 ⟨rfl, rfl⟩
      · replace hF := (if_pos c3).symm.trans hF
        refine a_aload_n dX11_ask_35 0 rfl rfl ?_
        refine a_iload_n dX11_ask_36 1 rfl rfl ?_
        obtain ⟨r37, s37, e37, hF⟩ := bd_some hF
        refine a_invV hZ.1 (As := [.int a1]) (rest := []) (hZ.2 60 0 (by decide) (by decide) Nat.one_pos) lk_X11_353 ⟨⟨by decide, by decide⟩, by decide, by decide⟩ rfl (Nat.le_of_ble_eq_true rfl) dX11_ask_37 (m_X11_sizeBy hZ  e37) ?_
        show AW Z l iX11_ask (Pq (rI R)) 0 0 40 [(0, .ref (za Z 60 0)), (1, .int a1), (2, .int a2)] [.int r37] s37
        refine a_goto 48 dX11_ask_40 (by decide) ?_
        cases hF
        exact a_iret rfl (Nat.zero_le _) (Nat.zero_le _) dX11_ask_48 ⟨rfl, rfl⟩
    · replace hF := (if_pos c2).symm.trans hF
      refine a_ldc (v := (-1000001)) kw_1136 dX11_ask_23 ?_
      cases hF
      exact a_iret rfl (Nat.zero_le _) (Nat.zero_le _) dX11_ask_25 ⟨rfl, rfl⟩
theorem m_X11_ask {Z : ZE} {l : Launch} (hZ : OkM Z) {a1 : Int32} {a2 : Int32}  {s : St} {R : Int32 × St} (hF : F_X11_ask (zg Z) a1 a2 s = some R) : Sp Z l yX11_ask iX11_ask [.ref (za Z 60 0), .int a1, .int a2] s (rI R) :=
  Sp.of (by decide) rfl (by decide) (w_X11_ask hZ  s hF)
-- X11_bad
def F_X11_bad (g : Nat × Nat) (a1 : Int32)   (s : St) : Option (Unit × St) := (if (s 60 0 38) = 0 then (some ((), (up (up s 60 0 38 a1) 60 0 39 (s 60 0 36)))) else (some ((), s)))
set_option maxRecDepth 100000 in
set_option maxHeartbeats 4000000 in
theorem w_X11_bad {Z : ZE} {l : Launch} (hZ : OkM Z) {a1 : Int32}  {R : Unit × St}    (s : St) (hF : F_X11_bad (zg Z) a1  s = some R) : AW Z l iX11_bad (Pq (rU R)) 0 0 0 [(0, .ref (za Z 60 0)), (1, .int a1)] [] s := by
  unfold F_X11_bad at hF
  refine a_aload_n dX11_bad_0 0 rfl rfl ?_
  refine a_getI hZ.1 (s 60 0 38) (hZ.2 60 0 (by decide) (by decide) Nat.one_pos) fl_X11_246 rfl rfl dX11_bad_1 ?_
  refine a_if_ne 20 dX11_bad_4 (by decide) (fun c1 => ?_) (fun c1 => ?_)
  · replace hF := (if_neg c1).symm.trans hF
    cases hF
    exact a_vret rfl (Nat.zero_le _) (Nat.zero_le _) dX11_bad_20 ⟨rfl, rfl⟩
  · replace hF := (if_pos c1).symm.trans hF
    refine a_aload_n dX11_bad_7 0 rfl rfl ?_
    refine a_iload_n dX11_bad_8 1 rfl rfl ?_
    refine a_put hZ.1 (hZ.2 60 0 (by decide) (by decide) Nat.one_pos) fl_X11_246 rfl rfl rfl dX11_bad_9 ?_
    refine a_aload_n dX11_bad_12 0 rfl rfl ?_
    refine a_aload_n dX11_bad_13 0 rfl rfl ?_
    refine a_getI hZ.1 (s 60 0 36) (hZ.2 60 0 (by decide) (by decide) Nat.one_pos) fl_X11_231 rfl rfl dX11_bad_14 ?_
    refine a_put hZ.1 (hZ.2 60 0 (by decide) (by decide) Nat.one_pos) fl_X11_249 rfl rfl rfl dX11_bad_17 ?_
    cases hF
    exact a_vret rfl (Nat.zero_le _) (Nat.zero_le _) dX11_bad_20 ⟨rfl, rfl⟩
theorem m_X11_bad {Z : ZE} {l : Launch} (hZ : OkM Z) {a1 : Int32}  {s : St} {R : Unit × St} (hF : F_X11_bad (zg Z) a1 s = some R) : Sp Z l yX11_bad iX11_bad [.ref (za Z 60 0), .int a1] s (rU R) :=
  Sp.of (by decide) rfl (by decide) (w_X11_bad hZ  s hF)
-- X11_balesOf
def F_X11_balesOf_9 (g : Nat × Nat) (a1 : Int32)  : Nat → Int32 → Int32 → St → Option (Int32 × St)
  | 0, _, _, _ => none
  | n_ + 1, v2, v3, s => (if (s 60 0 15) ≤ v3 then (some (v2, s)) else (gd (inb (((4 : Int32) * v3) + a1) 24) (F_X11_balesOf_9 g a1  n_ (v2 + (s 74 0 (((4 : Int32) * v3) + a1).toNatClampNeg)) (v3 + 1) s)))
set_option maxRecDepth 100000 in
set_option maxHeartbeats 4000000 in
theorem w_X11_balesOf_9 {Z : ZE} {l : Launch} (hZ : OkM Z) {a1 : Int32}  {R : Int32 × St}  : ∀ (n_ : Nat) (v2 : Int32) (v3 : Int32)  (s : St), F_X11_balesOf_9 (zg Z) a1 n_ v2 v3 s = some R → AW Z l iX11_balesOf (Pq (rI R)) 0 0 9 [(0, .ref (za Z 60 0)), (1, .int a1), (2, .int v2), (3, .int v3)] [] s := by
  intro n_
  induction n_ with
  | zero =>
    intro v2 v3 s hF
    exact absurd hF (by rw [F_X11_balesOf_9]; exact fun q => by cases q)
  | succ n_ w9_ =>
    intro v2 v3 s hF
    rw [F_X11_balesOf_9] at hF
    refine a_iload_n dX11_balesOf_9 3 rfl rfl ?_
    refine a_aload_n dX11_balesOf_10 0 rfl rfl ?_
    refine a_getI hZ.1 (s 60 0 15) (hZ.2 60 0 (by decide) (by decide) Nat.one_pos) fl_X11_145 rfl rfl dX11_balesOf_11 ?_
    refine a_icmp_ge 36 dX11_balesOf_14 (by decide) (fun c1 => ?_) (fun c1 => ?_)
    · replace hF := (if_pos c1).symm.trans hF
      refine a_iload_n dX11_balesOf_36 2 rfl rfl ?_
      cases hF
      exact a_iret rfl (Nat.zero_le _) (Nat.zero_le _) dX11_balesOf_37 ⟨rfl, rfl⟩
    · replace hF := (if_neg c1).symm.trans hF
      refine a_iload_n dX11_balesOf_17 2 rfl rfl ?_
      refine a_aload_n dX11_balesOf_18 0 rfl rfl ?_
      refine a_getR hZ.1 (hZ.2 60 0 (by decide) (by decide) Nat.one_pos) fl_X11_60 rfl 0 rfl dX11_balesOf_19 ?_
      refine a_iconst (v := (4 : Int32)) dX11_balesOf_22 (by decide) ?_
      refine a_iload_n dX11_balesOf_23 3 rfl rfl ?_
      refine a_imul dX11_balesOf_24 ?_
      refine a_iload_n dX11_balesOf_25 1 rfl rfl ?_
      refine a_iadd dX11_balesOf_26 ?_
      obtain ⟨b2, hF⟩ := gd_some hF
      refine a_iald hZ.1 (s 74 0 (((4 : Int32) * v3) + a1).toNatClampNeg) (hZ.2 74 0 (by decide) (by decide) Nat.one_pos) rfl rfl (inb_vp b2) rfl dX11_balesOf_27 ?_
      refine a_iadd dX11_balesOf_28 ?_
      refine a_istore_n [(2, .int (v2 + (s 74 0 (((4 : Int32) * v3) + a1).toNatClampNeg))), (0, .ref (za Z 60 0)), (1, .int a1), (3, .int v3)] dX11_balesOf_29 rfl (by decide) rfl ?_
      refine a_iinc [(3, .int (v3 + 1)), (2, .int (v2 + (s 74 0 (((4 : Int32) * v3) + a1).toNatClampNeg))), (0, .ref (za Z 60 0)), (1, .int a1)] dX11_balesOf_30 3 rfl rfl (by decide) rfl ?_
      refine a_goto 9 dX11_balesOf_33 (by decide) ?_
      refine a_loc [(0, .ref (za Z 60 0)), (1, .int a1), (2, .int (v2 + (s 74 0 (((4 : Int32) * v3) + a1).toNatClampNeg))), (3, .int (v3 + 1))] [2, 3, 1, 0] rfl ?_
      exact w9_ (v2 + (s 74 0 (((4 : Int32) * v3) + a1).toNatClampNeg)) (v3 + 1)  _ hF
def F_X11_balesOf (g : Nat × Nat) (a1 : Int32)   (s : St) : Option (Int32 × St) := (gd (inb a1 4) (F_X11_balesOf_9 g a1  fu (s 66 0 a1.toNatClampNeg) (0 : Int32) s))
set_option maxRecDepth 100000 in
set_option maxHeartbeats 4000000 in
theorem w_X11_balesOf {Z : ZE} {l : Launch} (hZ : OkM Z) {a1 : Int32}  {R : Int32 × St}    (s : St) (hF : F_X11_balesOf (zg Z) a1  s = some R) : AW Z l iX11_balesOf (Pq (rI R)) 0 0 0 [(0, .ref (za Z 60 0)), (1, .int a1)] [] s := by
  unfold F_X11_balesOf at hF
  refine a_aload_n dX11_balesOf_0 0 rfl rfl ?_
  refine a_getR hZ.1 (hZ.2 60 0 (by decide) (by decide) Nat.one_pos) fl_X11_33 rfl 0 rfl dX11_balesOf_1 ?_
  refine a_iload_n dX11_balesOf_4 1 rfl rfl ?_
  obtain ⟨b1, hF⟩ := gd_some hF
  refine a_iald hZ.1 (s 66 0 a1.toNatClampNeg) (hZ.2 66 0 (by decide) (by decide) Nat.one_pos) rfl rfl (inb_vp b1) rfl dX11_balesOf_5 ?_
  refine a_istore_n [(2, .int (s 66 0 a1.toNatClampNeg)), (0, .ref (za Z 60 0)), (1, .int a1)] dX11_balesOf_6 rfl (by decide) rfl ?_
  refine a_iconst (v := (0 : Int32)) dX11_balesOf_7 (by decide) ?_
  refine a_istore_n [(3, .int (0 : Int32)), (2, .int (s 66 0 a1.toNatClampNeg)), (0, .ref (za Z 60 0)), (1, .int a1)] dX11_balesOf_8 rfl (by decide) rfl ?_
  refine a_loc [(0, .ref (za Z 60 0)), (1, .int a1), (2, .int (s 66 0 a1.toNatClampNeg)), (3, .int (0 : Int32))] [2, 3, 1, 0] rfl ?_
  exact w_X11_balesOf_9 (l := l) hZ   fu (s 66 0 a1.toNatClampNeg) (0 : Int32)  _ hF
theorem m_X11_balesOf {Z : ZE} {l : Launch} (hZ : OkM Z) {a1 : Int32}  {s : St} {R : Int32 × St} (hF : F_X11_balesOf (zg Z) a1 s = some R) : Sp Z l yX11_balesOf iX11_balesOf [.ref (za Z 60 0), .int a1] s (rI R) :=
  Sp.of (by decide) rfl (by decide) (w_X11_balesOf hZ  s hF)
-- X11_byteAt
def F_X11_byteAt (g : Nat × Nat) (a1 : Int32)   (s : St) : Option (Int32 × St) := (if (s 60 0 33) ≤ a1 then (some ((-1000000), s)) else (gd (inb a1 400) (some ((s 82 0 a1.toNatClampNeg), s))))
set_option maxRecDepth 100000 in
set_option maxHeartbeats 4000000 in
theorem w_X11_byteAt {Z : ZE} {l : Launch} (hZ : OkM Z) {a1 : Int32}  {R : Int32 × St}    (s : St) (hF : F_X11_byteAt (zg Z) a1  s = some R) : AW Z l iX11_byteAt (Pq (rI R)) 0 0 0 [(0, .ref (za Z 60 0)), (1, .int a1)] [] s := by
  unfold F_X11_byteAt at hF
  refine a_iload_n dX11_byteAt_0 1 rfl rfl ?_
  refine a_aload_n dX11_byteAt_1 0 rfl rfl ?_
  refine a_getI hZ.1 (s 60 0 33) (hZ.2 60 0 (by decide) (by decide) Nat.one_pos) fl_X11_222 rfl rfl dX11_byteAt_2 ?_
  refine a_icmp_ge 17 dX11_byteAt_5 (by decide) (fun c1 => ?_) (fun c1 => ?_)
  · replace hF := (if_pos c1).symm.trans hF
    refine a_ldc (v := (-1000000)) kw_951 dX11_byteAt_17 ?_
    cases hF
    exact a_iret rfl (Nat.zero_le _) (Nat.zero_le _) dX11_byteAt_19 ⟨rfl, rfl⟩
  · replace hF := (if_neg c1).symm.trans hF
    refine a_aload_n dX11_byteAt_8 0 rfl rfl ?_
    refine a_getR hZ.1 (hZ.2 60 0 (by decide) (by decide) Nat.one_pos) fl_X11_85 rfl 0 rfl dX11_byteAt_9 ?_
    refine a_iload_n dX11_byteAt_12 1 rfl rfl ?_
    obtain ⟨b2, hF⟩ := gd_some hF
    refine a_iald hZ.1 (s 82 0 a1.toNatClampNeg) (hZ.2 82 0 (by decide) (by decide) Nat.one_pos) rfl rfl (inb_vp b2) rfl dX11_byteAt_13 ?_
    refine a_goto 19 dX11_byteAt_14 (by decide) ?_
    cases hF
    exact a_iret rfl (Nat.zero_le _) (Nat.zero_le _) dX11_byteAt_19 ⟨rfl, rfl⟩
theorem m_X11_byteAt {Z : ZE} {l : Launch} (hZ : OkM Z) {a1 : Int32}  {s : St} {R : Int32 × St} (hF : F_X11_byteAt (zg Z) a1 s = some R) : Sp Z l yX11_byteAt iX11_byteAt [.ref (za Z 60 0), .int a1] s (rI R) :=
  Sp.of (by decide) rfl (by decide) (w_X11_byteAt hZ  s hF)
-- X11_isSheet
def F_X11_isSheet (g : Nat × Nat) (a0 : Int32)   (s : St) : Option (Int32 × St) := (bd (F_X11_in g a0.toInt64 (0 : Int64) (7 : Int64) s) (fun r6 s6 => (gd (isb r6) (some (r6, s6)))))
set_option maxRecDepth 100000 in
set_option maxHeartbeats 4000000 in
theorem w_X11_isSheet {Z : ZE} {l : Launch} (hZ : OkM Z) {a0 : Int32}  {R : Int32 × St}    (s : St) (hF : F_X11_isSheet (zg Z) a0  s = some R) : AW Z l iX11_isSheet (Pq (rI R)) 0 0 0 [(0, .int a0)] [] s := by
  unfold F_X11_isSheet at hF
  refine a_iload_n dX11_isSheet_0 0 rfl rfl ?_
  refine a_i2l dX11_isSheet_1 ?_
  refine a_lconst (v := (0 : Int64)) dX11_isSheet_2 (by decide) ?_
  refine a_ldc2 (v := (7 : Int64)) kw_1131 dX11_isSheet_3 ?_
  obtain ⟨r6, s6, e6, hF⟩ := bd_some hF
  refine a_invS hZ.1 (As := [.long a0.toInt64, .long (0 : Int64), .long (7 : Int64)]) (rest := []) lk_X11_126 ⟨⟨by decide, by decide⟩, by decide, by decide⟩ rfl (Nat.le_of_ble_eq_true rfl) dX11_isSheet_6 (m_X11_in hZ  e6) ?_
  show AW Z l iX11_isSheet (Pq (rI R)) 0 0 9 [(0, .int a0)] [.int r6] s6
  obtain ⟨b1, hF⟩ := gd_some hF
  cases hF
  exact a_zret rfl (isb_n b1) (Nat.zero_le _) (Nat.zero_le _) dX11_isSheet_9 ⟨rfl, rfl⟩
theorem m_X11_isSheet {Z : ZE} {l : Launch} (hZ : OkM Z) {a0 : Int32}  {s : St} {R : Int32 × St} (hF : F_X11_isSheet (zg Z) a0 s = some R) : Sp Z l yX11_isSheet iX11_isSheet [.int a0] s (rI R) :=
  Sp.of (by decide) rfl (by decide) (w_X11_isSheet hZ  s hF)
-- X11_copy
def F_X11_copy_167 (g : Nat × Nat) (a1 : Int32) (a2 : Int32) (a3 : Int32) (a4 : Int32) (a5 : Int32) (h143_ : Int32 → Int32 → St → Option (Int32 × St)) (v6 : Int32) (v7 : Int32) (x0 : Int32) (s : St) : Option (Int32 × St) := (gd (inb ((((80 : Int32) * a1) + a2) + x0) 640) (gd (inb ((((80 : Int32) * a3) + a4) + x0) 640) (h143_ v6 (v7 + 1) (up s 63 0 ((((80 : Int32) * a3) + a4) + x0).toNatClampNeg (s 63 0 ((((80 : Int32) * a1) + a2) + x0).toNatClampNeg)))))
set_option maxRecDepth 100000 in
set_option maxHeartbeats 4000000 in
theorem w_X11_copy_167 {Z : ZE} {l : Launch} (hZ : OkM Z) {a1 : Int32} {a2 : Int32} {a3 : Int32} {a4 : Int32} {a5 : Int32}  {R : Int32 × St} (h143_ : Int32 → Int32 → St → Option (Int32 × St)) (w143_ : ∀ (v6 : Int32) (v7 : Int32)  (s : St), h143_ v6 v7 s = some R → AW Z l iX11_copy (Pq (rI R)) 0 0 143 [(0, .ref (za Z 60 0)), (1, .int a1), (2, .int a2), (3, .int a3), (4, .int a4), (5, .int a5), (6, .int v6), (7, .int v7)] [] s) (v6 : Int32) (v7 : Int32) (x0 : Int32)  (s : St) (hF : F_X11_copy_167 (zg Z) a1 a2 a3 a4 a5 h143_ v6 v7 x0 s = some R) : AW Z l iX11_copy (Pq (rI R)) 0 0 167 [(0, .ref (za Z 60 0)), (1, .int a1), (2, .int a2), (3, .int a3), (4, .int a4), (5, .int a5), (6, .int v6), (7, .int v7)] [.int x0] s := by
  unfold F_X11_copy_167 at hF
  refine a_istore [(8, .int x0), (0, .ref (za Z 60 0)), (1, .int a1), (2, .int a2), (3, .int a3), (4, .int a4), (5, .int a5), (6, .int v6), (7, .int v7)] dX11_copy_167 (by decide) rfl ?_
  refine a_aload_n dX11_copy_169 1 rfl rfl ?_
  refine a_getR hZ.1 (hZ.2 60 0 (by decide) (by decide) Nat.one_pos) fl_X11_24 rfl 0 rfl dX11_copy_170 ?_
  refine a_bipush (v := (80 : Int32)) dX11_copy_173 (by decide) ?_
  refine a_iload_n dX11_copy_175 4 rfl rfl ?_
  refine a_imul dX11_copy_176 ?_
  refine a_iload dX11_copy_177 5 rfl ?_
  refine a_iadd dX11_copy_179 ?_
  refine a_iload dX11_copy_180 0 rfl ?_
  refine a_iadd dX11_copy_182 ?_
  refine a_aload_n dX11_copy_183 1 rfl rfl ?_
  refine a_getR hZ.1 (hZ.2 60 0 (by decide) (by decide) Nat.one_pos) fl_X11_24 rfl 0 rfl dX11_copy_184 ?_
  refine a_bipush (v := (80 : Int32)) dX11_copy_187 (by decide) ?_
  refine a_iload_n dX11_copy_189 2 rfl rfl ?_
  refine a_imul dX11_copy_190 ?_
  refine a_iload_n dX11_copy_191 3 rfl rfl ?_
  refine a_iadd dX11_copy_192 ?_
  refine a_iload dX11_copy_193 0 rfl ?_
  refine a_iadd dX11_copy_195 ?_
  obtain ⟨b1, hF⟩ := gd_some hF
  refine a_iald hZ.1 (s 63 0 ((((80 : Int32) * a1) + a2) + x0).toNatClampNeg) (hZ.2 63 0 (by decide) (by decide) Nat.one_pos) rfl rfl (inb_vp b1) rfl dX11_copy_196 ?_
  obtain ⟨b2, hF⟩ := gd_some hF
  refine a_iast hZ.1 (hZ.2 63 0 (by decide) (by decide) Nat.one_pos) rfl rfl (inb_vp b2) dX11_copy_197 ?_
  refine a_iinc [(7, .int (v7 + 1)), (8, .int x0), (0, .ref (za Z 60 0)), (1, .int a1), (2, .int a2), (3, .int a3), (4, .int a4), (5, .int a5), (6, .int v6)] dX11_copy_198 8 rfl rfl (by decide) rfl ?_
  refine a_goto 143 dX11_copy_201 (by decide) ?_
  refine a_loc [(0, .ref (za Z 60 0)), (1, .int a1), (2, .int a2), (3, .int a3), (4, .int a4), (5, .int a5), (6, .int v6), (7, .int (v7 + 1))] [2, 3, 4, 5, 6, 7, 8, 0] rfl ?_
  exact w143_ v6 (v7 + 1)  _ hF
def F_X11_copy_143 (g : Nat × Nat) (a1 : Int32) (a2 : Int32) (a3 : Int32) (a4 : Int32) (a5 : Int32)  : Nat → Int32 → Int32 → St → Option (Int32 × St)
  | 0, _, _, _ => none
  | n_ + 1, v6, v7, s => (if a5 ≤ v7 then (some (a5, s)) else (if v6 = 0 then (F_X11_copy_167 g a1 a2 a3 a4 a5 (F_X11_copy_143 g a1 a2 a3 a4 a5  n_) v6 v7 ((a5 - (1 : Int32)) - v7) s) else (F_X11_copy_167 g a1 a2 a3 a4 a5 (F_X11_copy_143 g a1 a2 a3 a4 a5  n_) v6 v7 v7 s)))
set_option maxRecDepth 100000 in
set_option maxHeartbeats 4000000 in
theorem w_X11_copy_143 {Z : ZE} {l : Launch} (hZ : OkM Z) {a1 : Int32} {a2 : Int32} {a3 : Int32} {a4 : Int32} {a5 : Int32}  {R : Int32 × St}  : ∀ (n_ : Nat) (v6 : Int32) (v7 : Int32)  (s : St), F_X11_copy_143 (zg Z) a1 a2 a3 a4 a5 n_ v6 v7 s = some R → AW Z l iX11_copy (Pq (rI R)) 0 0 143 [(0, .ref (za Z 60 0)), (1, .int a1), (2, .int a2), (3, .int a3), (4, .int a4), (5, .int a5), (6, .int v6), (7, .int v7)] [] s := by
  intro n_
  induction n_ with
  | zero =>
    intro v6 v7 s hF
    exact absurd hF (by rw [F_X11_copy_143]; exact fun q => by cases q)
  | succ n_ w143_ =>
    intro v6 v7 s hF
    rw [F_X11_copy_143] at hF
    refine a_iload dX11_copy_143 7 rfl ?_
    refine a_iload dX11_copy_145 5 rfl ?_
    refine a_icmp_ge 204 dX11_copy_147 (by decide) (fun c1 => ?_) (fun c1 => ?_)
    · replace hF := (if_pos c1).symm.trans hF
      refine a_iload dX11_copy_204 5 rfl ?_
      cases hF
      exact a_iret rfl (Nat.zero_le _) (Nat.zero_le _) dX11_copy_206 ⟨rfl, rfl⟩
    · replace hF := (if_neg c1).symm.trans hF
      refine a_iload dX11_copy_150 6 rfl ?_
      refine a_if_eq 160 dX11_copy_152 (by decide) (fun c2 => ?_) (fun c2 => ?_)
      · replace hF := (if_pos c2).symm.trans hF
        refine a_iload dX11_copy_160 5 rfl ?_
        refine a_iconst (v := (1 : Int32)) dX11_copy_162 (by decide) ?_
        refine a_isub dX11_copy_163 ?_
        refine a_iload dX11_copy_164 7 rfl ?_
        refine a_isub dX11_copy_166 ?_
        exact w_X11_copy_167 (l := l) hZ  w143_ v6 v7 ((a5 - (1 : Int32)) - v7)  _ hF
      · replace hF := (if_neg c2).symm.trans hF
        refine a_iload dX11_copy_155 7 rfl ?_
        refine a_goto 167 dX11_copy_157 (by decide) ?_
        exact w_X11_copy_167 (l := l) hZ  w143_ v6 v7 v7  _ hF
def F_X11_copy_138 (g : Nat × Nat) (a1 : Int32) (a2 : Int32) (a3 : Int32) (a4 : Int32) (a5 : Int32)  (x0 : Int32) (s : St) : Option (Int32 × St) := (F_X11_copy_143 g a1 a2 a3 a4 a5  fu x0 (0 : Int32) s)
set_option maxRecDepth 100000 in
set_option maxHeartbeats 4000000 in
theorem w_X11_copy_138 {Z : ZE} {l : Launch} (hZ : OkM Z) {a1 : Int32} {a2 : Int32} {a3 : Int32} {a4 : Int32} {a5 : Int32}  {R : Int32 × St}  (x0 : Int32)  (s : St) (hF : F_X11_copy_138 (zg Z) a1 a2 a3 a4 a5 x0 s = some R) : AW Z l iX11_copy (Pq (rI R)) 0 0 138 [(0, .ref (za Z 60 0)), (1, .int a1), (2, .int a2), (3, .int a3), (4, .int a4), (5, .int a5)] [.int x0] s := by
  unfold F_X11_copy_138 at hF
  refine a_istore [(6, .int x0), (0, .ref (za Z 60 0)), (1, .int a1), (2, .int a2), (3, .int a3), (4, .int a4), (5, .int a5)] dX11_copy_138 (by decide) rfl ?_
  refine a_iconst (v := (0 : Int32)) dX11_copy_140 (by decide) ?_
  refine a_istore [(7, .int (0 : Int32)), (6, .int x0), (0, .ref (za Z 60 0)), (1, .int a1), (2, .int a2), (3, .int a3), (4, .int a4), (5, .int a5)] dX11_copy_141 (by decide) rfl ?_
  refine a_loc [(0, .ref (za Z 60 0)), (1, .int a1), (2, .int a2), (3, .int a3), (4, .int a4), (5, .int a5), (6, .int x0), (7, .int (0 : Int32))] [2, 3, 4, 5, 6, 7, 1, 0] rfl ?_
  exact w_X11_copy_143 (l := l) hZ   fu x0 (0 : Int32)  _ hF
def F_X11_copy_121 (g : Nat × Nat) (a1 : Int32) (a2 : Int32) (a3 : Int32) (a4 : Int32) (a5 : Int32)   (s : St) : Option (Int32 × St) := (bd (F_X11_finding g (2 : Int32) s) (fun r123 s123 => (some (r123, s123))))
set_option maxRecDepth 100000 in
set_option maxHeartbeats 4000000 in
theorem w_X11_copy_121 {Z : ZE} {l : Launch} (hZ : OkM Z) {a1 : Int32} {a2 : Int32} {a3 : Int32} {a4 : Int32} {a5 : Int32}  {R : Int32 × St}    (s : St) (hF : F_X11_copy_121 (zg Z) a1 a2 a3 a4 a5  s = some R) : AW Z l iX11_copy (Pq (rI R)) 0 0 121 [(0, .ref (za Z 60 0))] [] s := by
  unfold F_X11_copy_121 at hF
  refine a_aload_n dX11_copy_121 0 rfl rfl ?_
  refine a_iconst (v := (2 : Int32)) dX11_copy_122 (by decide) ?_
  obtain ⟨r123, s123, e123, hF⟩ := bd_some hF
  refine a_invV hZ.1 (As := [.int (2 : Int32)]) (rest := []) (hZ.2 60 0 (by decide) (by decide) Nat.one_pos) lk_X11_137 ⟨⟨by decide, by decide⟩, by decide, by decide⟩ rfl (Nat.le_of_ble_eq_true rfl) dX11_copy_123 (m_X11_finding hZ  e123) ?_
  show AW Z l iX11_copy (Pq (rI R)) 0 0 126 [(0, .ref (za Z 60 0))] [.int r123] s123
  cases hF
  exact a_iret rfl (Nat.zero_le _) (Nat.zero_le _) dX11_copy_126 ⟨rfl, rfl⟩
def F_X11_copy_45 (g : Nat × Nat) (a1 : Int32) (a2 : Int32) (a3 : Int32) (a4 : Int32) (a5 : Int32)   (s : St) : Option (Int32 × St) := (bd (F_X11_finding g (1 : Int32) s) (fun r47 s47 => (some (r47, s47))))
set_option maxRecDepth 100000 in
set_option maxHeartbeats 4000000 in
theorem w_X11_copy_45 {Z : ZE} {l : Launch} (hZ : OkM Z) {a1 : Int32} {a2 : Int32} {a3 : Int32} {a4 : Int32} {a5 : Int32}  {R : Int32 × St}    (s : St) (hF : F_X11_copy_45 (zg Z) a1 a2 a3 a4 a5  s = some R) : AW Z l iX11_copy (Pq (rI R)) 0 0 45 [(0, .ref (za Z 60 0))] [] s := by
  unfold F_X11_copy_45 at hF
  refine a_aload_n dX11_copy_45 0 rfl rfl ?_
  refine a_iconst (v := (1 : Int32)) dX11_copy_46 (by decide) ?_
  obtain ⟨r47, s47, e47, hF⟩ := bd_some hF
  refine a_invV hZ.1 (As := [.int (1 : Int32)]) (rest := []) (hZ.2 60 0 (by decide) (by decide) Nat.one_pos) lk_X11_137 ⟨⟨by decide, by decide⟩, by decide, by decide⟩ rfl (Nat.le_of_ble_eq_true rfl) dX11_copy_47 (m_X11_finding hZ  e47) ?_
  show AW Z l iX11_copy (Pq (rI R)) 0 0 50 [(0, .ref (za Z 60 0))] [.int r47] s47
  cases hF
  exact a_iret rfl (Nat.zero_le _) (Nat.zero_le _) dX11_copy_50 ⟨rfl, rfl⟩
def F_X11_copy (g : Nat × Nat) (a1 : Int32) (a2 : Int32) (a3 : Int32) (a4 : Int32) (a5 : Int32)   (s : St) : Option (Int32 × St) := (bd (F_X11_isSheet g a1 (up s 60 0 0 (0 : Int32))) (fun r6 s6 => (if r6 = 0 then (some ((-1000001), s6)) else (bd (F_X11_isSheet g a3 s6) (fun r13 s13 => (if r13 = 0 then (some ((-1000001), s13)) else (gd (inb a1 8) (if (s13 61 0 a1.toNatClampNeg) < 0 then (F_X11_copy_45 g a1 a2 a3 a4 a5   (up s13 60 0 1 (0 : Int32))) else (gd (inb a3 8) (if 0 ≤ (s13 61 0 a3.toNatClampNeg) then (gd (inb a1 8) (gd (inb a3 8) (if (s13 61 0 a1.toNatClampNeg) = (s13 61 0 a3.toNatClampNeg) then (if a2 < 0 then (F_X11_copy_121 g a1 a2 a3 a4 a5   (up s13 60 0 1 (0 : Int32))) else (if a4 < 0 then (F_X11_copy_121 g a1 a2 a3 a4 a5   (up s13 60 0 1 (0 : Int32))) else (if a5 < 0 then (F_X11_copy_121 g a1 a2 a3 a4 a5   (up s13 60 0 1 (0 : Int32))) else (gd (inb a1 8) (if 0 < (lg_cmp (a2.toInt64 + a5.toInt64) (s13 62 0 a1.toNatClampNeg).toInt64) then (F_X11_copy_121 g a1 a2 a3 a4 a5   (up s13 60 0 1 (0 : Int32))) else (gd (inb a3 8) (if (lg_cmp (a4.toInt64 + a5.toInt64) (s13 62 0 a3.toNatClampNeg).toInt64) ≤ 0 then (if a2 < a4 then (F_X11_copy_138 g a1 a2 a3 a4 a5  (0 : Int32) (up s13 60 0 1 (0 : Int32))) else (F_X11_copy_138 g a1 a2 a3 a4 a5  (1 : Int32) (up s13 60 0 1 (0 : Int32)))) else (F_X11_copy_121 g a1 a2 a3 a4 a5   (up s13 60 0 1 (0 : Int32)))))))))) else (bd (F_X11_finding g (5 : Int32) (up s13 60 0 1 (0 : Int32))) (fun r68 s68 => (some (r68, s68))))))) else (F_X11_copy_45 g a1 a2 a3 a4 a5   (up s13 60 0 1 (0 : Int32)))))))))))))
set_option maxRecDepth 100000 in
set_option maxHeartbeats 4000000 in
theorem w_X11_copy {Z : ZE} {l : Launch} (hZ : OkM Z) {a1 : Int32} {a2 : Int32} {a3 : Int32} {a4 : Int32} {a5 : Int32}  {R : Int32 × St}    (s : St) (hF : F_X11_copy (zg Z) a1 a2 a3 a4 a5  s = some R) : AW Z l iX11_copy (Pq (rI R)) 0 0 0 [(0, .ref (za Z 60 0)), (1, .int a1), (2, .int a2), (3, .int a3), (4, .int a4), (5, .int a5)] [] s := by
  unfold F_X11_copy at hF
  refine a_aload_n dX11_copy_0 0 rfl rfl ?_
  refine a_iconst (v := (0 : Int32)) dX11_copy_1 (by decide) ?_
  refine a_put hZ.1 (hZ.2 60 0 (by decide) (by decide) Nat.one_pos) fl_X11_1 rfl rfl rfl dX11_copy_2 ?_
  refine a_iload_n dX11_copy_5 1 rfl rfl ?_
  obtain ⟨r6, s6, e6, hF⟩ := bd_some hF
  refine a_invS hZ.1 (As := [.int a1]) (rest := []) lk_X11_130 ⟨⟨by decide, by decide⟩, by decide, by decide⟩ rfl (Nat.le_of_ble_eq_true rfl) dX11_copy_6 (m_X11_isSheet hZ  e6) ?_
  show AW Z l iX11_copy (Pq (rI R)) 0 0 9 [(0, .ref (za Z 60 0)), (1, .int a1), (2, .int a2), (3, .int a3), (4, .int a4), (5, .int a5)] [.int r6] s6
  refine a_if_eq 19 dX11_copy_9 (by decide) (fun c1 => ?_) (fun c1 => ?_)
  · replace hF := (if_pos c1).symm.trans hF
    refine a_ldc (v := (-1000001)) kw_1136 dX11_copy_19 ?_
    cases hF
    exact a_iret rfl (Nat.zero_le _) (Nat.zero_le _) dX11_copy_21 ⟨rfl, rfl⟩
  · replace hF := (if_neg c1).symm.trans hF
    refine a_iload_n dX11_copy_12 3 rfl rfl ?_
    obtain ⟨r13, s13, e13, hF⟩ := bd_some hF
    refine a_invS hZ.1 (As := [.int a3]) (rest := []) lk_X11_130 ⟨⟨by decide, by decide⟩, by decide, by decide⟩ rfl (Nat.le_of_ble_eq_true rfl) dX11_copy_13 (m_X11_isSheet hZ  e13) ?_
    show AW Z l iX11_copy (Pq (rI R)) 0 0 16 [(0, .ref (za Z 60 0)), (1, .int a1), (2, .int a2), (3, .int a3), (4, .int a4), (5, .int a5)] [.int r13] s13
    refine a_if_ne 22 dX11_copy_16 (by decide) (fun c2 => ?_) (fun c2 => ?_)
    · replace hF := (if_neg c2).symm.trans hF
      refine a_aload_n dX11_copy_22 0 rfl rfl ?_
      refine a_iconst (v := (0 : Int32)) dX11_copy_23 (by decide) ?_
      refine a_put hZ.1 (hZ.2 60 0 (by decide) (by decide) Nat.one_pos) fl_X11_7 rfl rfl rfl dX11_copy_24 ?_
      refine a_aload_n dX11_copy_27 0 rfl rfl ?_
      refine a_getR hZ.1 (hZ.2 60 0 (by decide) (by decide) Nat.one_pos) fl_X11_17 rfl 0 rfl dX11_copy_28 ?_
      refine a_iload_n dX11_copy_31 1 rfl rfl ?_
      obtain ⟨b3, hF⟩ := gd_some hF
      refine a_iald hZ.1 (s13 61 0 a1.toNatClampNeg) (hZ.2 61 0 (by decide) (by decide) Nat.one_pos) rfl rfl (inb_vp b3) rfl dX11_copy_32 ?_
      refine a_if_lt 45 dX11_copy_33 (by decide) (fun c4 => ?_) (fun c4 => ?_)
      · replace hF := (if_pos c4).symm.trans hF
        refine a_loc [(0, .ref (za Z 60 0))] [0] rfl ?_
        exact w_X11_copy_45 (l := l) hZ     _ hF
      · replace hF := (if_neg c4).symm.trans hF
        refine a_aload_n dX11_copy_36 0 rfl rfl ?_
        refine a_getR hZ.1 (hZ.2 60 0 (by decide) (by decide) Nat.one_pos) fl_X11_17 rfl 0 rfl dX11_copy_37 ?_
        refine a_iload_n dX11_copy_40 3 rfl rfl ?_
        obtain ⟨b5, hF⟩ := gd_some hF
        refine a_iald hZ.1 (s13 61 0 a3.toNatClampNeg) (hZ.2 61 0 (by decide) (by decide) Nat.one_pos) rfl rfl (inb_vp b5) rfl dX11_copy_41 ?_
        refine a_if_ge 51 dX11_copy_42 (by decide) (fun c6 => ?_) (fun c6 => ?_)
        · replace hF := (if_pos c6).symm.trans hF
          refine a_aload_n dX11_copy_51 0 rfl rfl ?_
          refine a_getR hZ.1 (hZ.2 60 0 (by decide) (by decide) Nat.one_pos) fl_X11_17 rfl 0 rfl dX11_copy_52 ?_
          refine a_iload_n dX11_copy_55 1 rfl rfl ?_
          obtain ⟨b7, hF⟩ := gd_some hF
          refine a_iald hZ.1 (s13 61 0 a1.toNatClampNeg) (hZ.2 61 0 (by decide) (by decide) Nat.one_pos) rfl rfl (inb_vp b7) rfl dX11_copy_56 ?_
          refine a_aload_n dX11_copy_57 0 rfl rfl ?_
          refine a_getR hZ.1 (hZ.2 60 0 (by decide) (by decide) Nat.one_pos) fl_X11_17 rfl 0 rfl dX11_copy_58 ?_
          refine a_iload_n dX11_copy_61 3 rfl rfl ?_
          obtain ⟨b8, hF⟩ := gd_some hF
          refine a_iald hZ.1 (s13 61 0 a3.toNatClampNeg) (hZ.2 61 0 (by decide) (by decide) Nat.one_pos) rfl rfl (inb_vp b8) rfl dX11_copy_62 ?_
          refine a_icmp_eq 72 dX11_copy_63 (by decide) (fun c9 => ?_) (fun c9 => ?_)
          · replace hF := (if_pos c9).symm.trans hF
            refine a_iload_n dX11_copy_72 2 rfl rfl ?_
            refine a_if_lt 121 dX11_copy_73 (by decide) (fun c10 => ?_) (fun c10 => ?_)
            · replace hF := (if_pos c10).symm.trans hF
              refine a_loc [(0, .ref (za Z 60 0))] [0] rfl ?_
              exact w_X11_copy_121 (l := l) hZ     _ hF
            · replace hF := (if_neg c10).symm.trans hF
              refine a_iload dX11_copy_76 4 rfl ?_
              refine a_if_lt 121 dX11_copy_78 (by decide) (fun c11 => ?_) (fun c11 => ?_)
              · replace hF := (if_pos c11).symm.trans hF
                refine a_loc [(0, .ref (za Z 60 0))] [0] rfl ?_
                exact w_X11_copy_121 (l := l) hZ     _ hF
              · replace hF := (if_neg c11).symm.trans hF
                refine a_iload dX11_copy_81 5 rfl ?_
                refine a_if_lt 121 dX11_copy_83 (by decide) (fun c12 => ?_) (fun c12 => ?_)
                · replace hF := (if_pos c12).symm.trans hF
                  refine a_loc [(0, .ref (za Z 60 0))] [0] rfl ?_
                  exact w_X11_copy_121 (l := l) hZ     _ hF
                · replace hF := (if_neg c12).symm.trans hF
                  refine a_iload_n dX11_copy_86 2 rfl rfl ?_
                  refine a_i2l dX11_copy_87 ?_
                  refine a_iload dX11_copy_88 5 rfl ?_
                  refine a_i2l dX11_copy_90 ?_
                  refine a_ladd dX11_copy_91 ?_
                  refine a_aload_n dX11_copy_92 0 rfl rfl ?_
                  refine a_getR hZ.1 (hZ.2 60 0 (by decide) (by decide) Nat.one_pos) fl_X11_21 rfl 0 rfl dX11_copy_93 ?_
                  refine a_iload_n dX11_copy_96 1 rfl rfl ?_
                  obtain ⟨b13, hF⟩ := gd_some hF
                  refine a_iald hZ.1 (s13 62 0 a1.toNatClampNeg) (hZ.2 62 0 (by decide) (by decide) Nat.one_pos) rfl rfl (inb_vp b13) rfl dX11_copy_97 ?_
                  refine a_i2l dX11_copy_98 ?_
                  refine a_lcmp dX11_copy_99 ?_
                  refine a_if_gt 121 dX11_copy_100 (by decide) (fun c14 => ?_) (fun c14 => ?_)
                  · replace hF := (if_pos c14).symm.trans hF
                    refine a_loc [(0, .ref (za Z 60 0))] [0] rfl ?_
                    exact w_X11_copy_121 (l := l) hZ     _ hF
                  · replace hF := (if_neg c14).symm.trans hF
                    refine a_iload dX11_copy_103 4 rfl ?_
                    refine a_i2l dX11_copy_105 ?_
                    refine a_iload dX11_copy_106 5 rfl ?_
                    refine a_i2l dX11_copy_108 ?_
                    refine a_ladd dX11_copy_109 ?_
                    refine a_aload_n dX11_copy_110 0 rfl rfl ?_
                    refine a_getR hZ.1 (hZ.2 60 0 (by decide) (by decide) Nat.one_pos) fl_X11_21 rfl 0 rfl dX11_copy_111 ?_
                    refine a_iload_n dX11_copy_114 3 rfl rfl ?_
                    obtain ⟨b15, hF⟩ := gd_some hF
                    refine a_iald hZ.1 (s13 62 0 a3.toNatClampNeg) (hZ.2 62 0 (by decide) (by decide) Nat.one_pos) rfl rfl (inb_vp b15) rfl dX11_copy_115 ?_
                    refine a_i2l dX11_copy_116 ?_
                    refine a_lcmp dX11_copy_117 ?_
                    refine a_if_le 127 dX11_copy_118 (by decide) (fun c16 => ?_) (fun c16 => ?_)
                    · replace hF := (if_pos c16).symm.trans hF
                      refine a_iload_n dX11_copy_127 2 rfl rfl ?_
                      refine a_iload dX11_copy_128 4 rfl ?_
                      refine a_icmp_lt 137 dX11_copy_130 (by decide) (fun c17 => ?_) (fun c17 => ?_)
                      · replace hF := (if_pos c17).symm.trans hF
                        refine a_iconst (v := (0 : Int32)) dX11_copy_137 (by decide) ?_
                        exact w_X11_copy_138 (l := l) hZ   (0 : Int32)  _ hF
                      · replace hF := (if_neg c17).symm.trans hF
                        refine a_iconst (v := (1 : Int32)) dX11_copy_133 (by decide) ?_
                        refine a_goto 138 dX11_copy_134 (by decide) ?_
                        exact w_X11_copy_138 (l := l) hZ   (1 : Int32)  _ hF
                    · replace hF := (if_neg c16).symm.trans hF
                      refine a_loc [(0, .ref (za Z 60 0))] [0] rfl ?_
                      exact w_X11_copy_121 (l := l) hZ     _ hF
          · replace hF := (if_neg c9).symm.trans hF
            refine a_aload_n dX11_copy_66 0 rfl rfl ?_
            refine a_iconst (v := (5 : Int32)) dX11_copy_67 (by decide) ?_
            obtain ⟨r68, s68, e68, hF⟩ := bd_some hF
            refine a_invV hZ.1 (As := [.int (5 : Int32)]) (rest := []) (hZ.2 60 0 (by decide) (by decide) Nat.one_pos) lk_X11_137 ⟨⟨by decide, by decide⟩, by decide, by decide⟩ rfl (Nat.le_of_ble_eq_true rfl) dX11_copy_68 (m_X11_finding hZ  e68) ?_
            show AW Z l iX11_copy (Pq (rI R)) 0 0 71 [(0, .ref (za Z 60 0)), (1, .int a1), (2, .int a2), (3, .int a3), (4, .int a4), (5, .int a5)] [.int r68] s68
            cases hF
            exact a_iret rfl (Nat.zero_le _) (Nat.zero_le _) dX11_copy_71 ⟨rfl, rfl⟩
        · replace hF := (if_neg c6).symm.trans hF
          refine a_loc [(0, .ref (za Z 60 0))] [0] rfl ?_
          exact w_X11_copy_45 (l := l) hZ     _ hF
    · replace hF := (if_pos c2).symm.trans hF
      refine a_ldc (v := (-1000001)) kw_1136 dX11_copy_19 ?_
      cases hF
      exact a_iret rfl (Nat.zero_le _) (Nat.zero_le _) dX11_copy_21 ⟨rfl, rfl⟩
theorem m_X11_copy {Z : ZE} {l : Launch} (hZ : OkM Z) {a1 : Int32} {a2 : Int32} {a3 : Int32} {a4 : Int32} {a5 : Int32}  {s : St} {R : Int32 × St} (hF : F_X11_copy (zg Z) a1 a2 a3 a4 a5 s = some R) : Sp Z l yX11_copy iX11_copy [.ref (za Z 60 0), .int a1, .int a2, .int a3, .int a4, .int a5] s (rI R) :=
  Sp.of (by decide) rfl (by decide) (w_X11_copy hZ  s hF)
