-- X11_priceOf
def F_X11_priceOf_50 (g : Nat × Nat) (a1 : Int32)  (v2 : Int32) (s : St) : Option (Int32 × St) := (gd (inb a1 4) (bd (F_X11_balesOf g a1 s) (fun r61 s61 => (gd (ne0 ((1 : Int32) + r61)) (if (1 : Int32) ≤ (((s 64 0 a1.toNatClampNeg) * v2) / ((1 : Int32) + r61)) then (if (((s 64 0 a1.toNatClampNeg) * v2) / ((1 : Int32) + r61)) ≤ (5000 : Int32) then (some ((((s 64 0 a1.toNatClampNeg) * v2) / ((1 : Int32) + r61)), s61)) else (some ((5000 : Int32), s61))) else (some ((1 : Int32), s61)))))))
set_option maxRecDepth 100000 in
set_option maxHeartbeats 4000000 in
theorem w_X11_priceOf_50 {Z : ZE} {l : Launch} (hZ : OkM Z) {a1 : Int32}  {R : Int32 × St}  (v2 : Int32)  (s : St) (hF : F_X11_priceOf_50 (zg Z) a1 v2 s = some R) : AW Z l iX11_priceOf (Pq (rI R)) 0 0 50 [(0, .ref (za Z 60 0)), (1, .int a1), (2, .int v2)] [] s := by
  unfold F_X11_priceOf_50 at hF
  refine a_aload_n dX11_priceOf_50 0 rfl rfl ?_
  refine a_getR hZ.1 (hZ.2 60 0 (by decide) (by decide) Nat.one_pos) fl_X11_27 rfl 0 rfl dX11_priceOf_51 ?_
  refine a_iload_n dX11_priceOf_54 1 rfl rfl ?_
  obtain ⟨b1, hF⟩ := gd_some hF
  refine a_iald hZ.1 (s 64 0 a1.toNatClampNeg) (hZ.2 64 0 (by decide) (by decide) Nat.one_pos) rfl rfl (inb_vp b1) rfl dX11_priceOf_55 ?_
  refine a_iload_n dX11_priceOf_56 2 rfl rfl ?_
  refine a_imul dX11_priceOf_57 ?_
  refine a_iconst (v := (1 : Int32)) dX11_priceOf_58 (by decide) ?_
  refine a_aload_n dX11_priceOf_59 0 rfl rfl ?_
  refine a_iload_n dX11_priceOf_60 1 rfl rfl ?_
  obtain ⟨r61, s61, e61, hF⟩ := bd_some hF
  refine a_invV hZ.1 (As := [.int a1]) (rest := [.int (1 : Int32), .int ((s 64 0 a1.toNatClampNeg) * v2)]) (hZ.2 60 0 (by decide) (by decide) Nat.one_pos) lk_X11_182 ⟨⟨by decide, by decide⟩, by decide, by decide⟩ rfl (Nat.le_of_ble_eq_true rfl) dX11_priceOf_61 (m_X11_balesOf hZ  e61) ?_
  show AW Z l iX11_priceOf (Pq (rI R)) 0 0 64 [(0, .ref (za Z 60 0)), (1, .int a1), (2, .int v2)] [.int r61, .int (1 : Int32), .int ((s 64 0 a1.toNatClampNeg) * v2)] s61
  refine a_iadd dX11_priceOf_64 ?_
  obtain ⟨b2, hF⟩ := gd_some hF
  refine a_idiv dX11_priceOf_65 (ne0_n b2) ?_
  refine a_istore_n [(3, .int (((s 64 0 a1.toNatClampNeg) * v2) / ((1 : Int32) + r61))), (0, .ref (za Z 60 0)), (1, .int a1), (2, .int v2)] dX11_priceOf_66 rfl (by decide) rfl ?_
  refine a_iload_n dX11_priceOf_67 0 rfl rfl ?_
  refine a_iconst (v := (1 : Int32)) dX11_priceOf_68 (by decide) ?_
  refine a_icmp_ge 76 dX11_priceOf_69 (by decide) (fun c3 => ?_) (fun c3 => ?_)
  · replace hF := (if_pos c3).symm.trans hF
    refine a_iload_n dX11_priceOf_76 0 rfl rfl ?_
    refine a_sipush (v := (5000 : Int32)) dX11_priceOf_77 (by decide) ?_
    refine a_icmp_le 89 dX11_priceOf_80 (by decide) (fun c4 => ?_) (fun c4 => ?_)
    · replace hF := (if_pos c4).symm.trans hF
      refine a_iload_n dX11_priceOf_89 0 rfl rfl ?_
      replace hF := Option.some.inj hF
      subst hF
      exact a_iret rfl (Nat.zero_le _) (Nat.zero_le _) dX11_priceOf_90 ⟨rfl, rfl⟩
    · replace hF := (if_neg c4).symm.trans hF
      refine a_sipush (v := (5000 : Int32)) dX11_priceOf_83 (by decide) ?_
      refine a_goto 90 dX11_priceOf_86 (by decide) ?_
      replace hF := Option.some.inj hF
      subst hF
      exact a_iret rfl (Nat.zero_le _) (Nat.zero_le _) dX11_priceOf_90 ⟨rfl, rfl⟩
  · replace hF := (if_neg c3).symm.trans hF
    refine a_iconst (v := (1 : Int32)) dX11_priceOf_72 (by decide) ?_
    refine a_goto 90 dX11_priceOf_73 (by decide) ?_
    replace hF := Option.some.inj hF
    subst hF
    exact a_iret rfl (Nat.zero_le _) (Nat.zero_le _) dX11_priceOf_90 ⟨rfl, rfl⟩
def F_X11_priceOf_42 (g : Nat × Nat) (a1 : Int32) (h7_ : Int32 → Int32 → St → Option (Int32 × St)) (h50_ : Int32 → St → Option (Int32 × St)) (v3 : Int32) (x0 : Int32) (x1 : Int32) (s : St) : Option (Int32 × St) := (h7_ (x0 + x1) (v3 + 1) s)
set_option maxRecDepth 100000 in
set_option maxHeartbeats 4000000 in
theorem w_X11_priceOf_42 {Z : ZE} {l : Launch} (hZ : OkM Z) {a1 : Int32}  {R : Int32 × St} (h7_ : Int32 → Int32 → St → Option (Int32 × St)) (w7_ : ∀ (v2 : Int32) (v3 : Int32)  (s : St), h7_ v2 v3 s = some R → AW Z l iX11_priceOf (Pq (rI R)) 0 0 7 [(0, .ref (za Z 60 0)), (1, .int a1), (2, .int v2), (3, .int v3)] [] s) (h50_ : Int32 → St → Option (Int32 × St)) (w50_ : ∀ (v2 : Int32)  (s : St), h50_ v2 s = some R → AW Z l iX11_priceOf (Pq (rI R)) 0 0 50 [(0, .ref (za Z 60 0)), (1, .int a1), (2, .int v2)] [] s) (v3 : Int32) (x0 : Int32) (x1 : Int32)  (s : St) (hF : F_X11_priceOf_42 (zg Z) a1 h7_ h50_ v3 x0 x1 s = some R) : AW Z l iX11_priceOf (Pq (rI R)) 0 0 42 [(0, .ref (za Z 60 0)), (1, .int a1), (3, .int v3)] [.int x1, .int x0] s := by
  unfold F_X11_priceOf_42 at hF
  refine a_iadd dX11_priceOf_42 ?_
  refine a_istore_n [(2, .int (x0 + x1)), (0, .ref (za Z 60 0)), (1, .int a1), (3, .int v3)] dX11_priceOf_43 rfl (by decide) rfl ?_
  refine a_iinc [(3, .int (v3 + 1)), (2, .int (x0 + x1)), (0, .ref (za Z 60 0)), (1, .int a1)] dX11_priceOf_44 3 rfl rfl (by decide) rfl ?_
  refine a_goto 7 dX11_priceOf_47 (by decide) ?_
  refine a_loc [(0, .ref (za Z 60 0)), (1, .int a1), (2, .int (x0 + x1)), (3, .int (v3 + 1))] [2, 3, 1, 0] rfl ?_
  exact w7_ (x0 + x1) (v3 + 1)  _ hF
def F_X11_priceOf_7 (g : Nat × Nat) (a1 : Int32) (h50_ : Int32 → St → Option (Int32 × St)) : Nat → Int32 → Int32 → St → Option (Int32 × St)
  | 0, _, _, _ => none
  | n_ + 1, v2, v3, s => (if (s 60 0 15) ≤ v3 then (h50_ v2 s) else (gd (inb v3 6) (if (((s 71 0 v3.toNatClampNeg) >>> (a1 &&& 31)) &&& (1 : Int32)) = (1 : Int32) then (gd (inb v3 6) (F_X11_priceOf_42 g a1 (F_X11_priceOf_7 g a1 h50_ n_) h50_ v3 v2 ((4 : Int32) * (s 70 0 v3.toNatClampNeg)) s)) else (F_X11_priceOf_42 g a1 (F_X11_priceOf_7 g a1 h50_ n_) h50_ v3 v2 (0 : Int32) s))))
set_option maxRecDepth 100000 in
set_option maxHeartbeats 4000000 in
theorem w_X11_priceOf_7 {Z : ZE} {l : Launch} (hZ : OkM Z) {a1 : Int32}  {R : Int32 × St} (h50_ : Int32 → St → Option (Int32 × St)) (w50_ : ∀ (v2 : Int32)  (s : St), h50_ v2 s = some R → AW Z l iX11_priceOf (Pq (rI R)) 0 0 50 [(0, .ref (za Z 60 0)), (1, .int a1), (2, .int v2)] [] s) : ∀ (n_ : Nat) (v2 : Int32) (v3 : Int32)  (s : St), F_X11_priceOf_7 (zg Z) a1 h50_ n_ v2 v3 s = some R → AW Z l iX11_priceOf (Pq (rI R)) 0 0 7 [(0, .ref (za Z 60 0)), (1, .int a1), (2, .int v2), (3, .int v3)] [] s := by
  intro n_
  induction n_ with
  | zero =>
    intro v2 v3 s hF
    exact absurd hF (by rw [F_X11_priceOf_7]; exact fun q => by cases q)
  | succ n_ w7_ =>
    intro v2 v3 s hF
    rw [F_X11_priceOf_7] at hF
    refine a_iload_n dX11_priceOf_7 3 rfl rfl ?_
    refine a_aload_n dX11_priceOf_8 0 rfl rfl ?_
    refine a_getI hZ.1 (s 60 0 15) (hZ.2 60 0 (by decide) (by decide) Nat.one_pos) fl_X11_145 rfl rfl dX11_priceOf_9 ?_
    refine a_icmp_ge 50 dX11_priceOf_12 (by decide) (fun c1 => ?_) (fun c1 => ?_)
    · replace hF := (if_pos c1).symm.trans hF
      refine a_loc [(0, .ref (za Z 60 0)), (1, .int a1), (2, .int v2)] [0, 1, 2] rfl ?_
      exact w50_ v2  _ hF
    · replace hF := (if_neg c1).symm.trans hF
      refine a_iload_n dX11_priceOf_15 2 rfl rfl ?_
      refine a_aload_n dX11_priceOf_16 0 rfl rfl ?_
      refine a_getR hZ.1 (hZ.2 60 0 (by decide) (by decide) Nat.one_pos) fl_X11_51 rfl 0 rfl dX11_priceOf_17 ?_
      refine a_iload_n dX11_priceOf_20 3 rfl rfl ?_
      obtain ⟨b2, hF⟩ := gd_some hF
      refine a_iald hZ.1 (s 71 0 v3.toNatClampNeg) (hZ.2 71 0 (by decide) (by decide) Nat.one_pos) rfl rfl (inb_vp b2) rfl dX11_priceOf_21 ?_
      refine a_iload_n dX11_priceOf_22 1 rfl rfl ?_
      refine a_ishr dX11_priceOf_23 ?_
      refine a_iconst (v := (1 : Int32)) dX11_priceOf_24 (by decide) ?_
      refine a_iand dX11_priceOf_25 ?_
      refine a_iconst (v := (1 : Int32)) dX11_priceOf_26 (by decide) ?_
      refine a_icmp_ne 41 dX11_priceOf_27 (by decide) (fun c3 => ?_) (fun c3 => ?_)
      · replace hF := (if_neg c3).symm.trans hF
        refine a_iconst (v := (0 : Int32)) dX11_priceOf_41 (by decide) ?_
        refine a_loc [(0, .ref (za Z 60 0)), (1, .int a1), (3, .int v3)] [0, 1, 3] rfl ?_
        exact w_X11_priceOf_42 (l := l) hZ  (F_X11_priceOf_7 (zg Z) a1 h50_ n_) w7_ h50_ w50_ v3 v2 (0 : Int32)  _ hF
      · replace hF := (if_pos c3).symm.trans hF
        refine a_iconst (v := (4 : Int32)) dX11_priceOf_30 (by decide) ?_
        refine a_aload_n dX11_priceOf_31 0 rfl rfl ?_
        refine a_getR hZ.1 (hZ.2 60 0 (by decide) (by decide) Nat.one_pos) fl_X11_48 rfl 0 rfl dX11_priceOf_32 ?_
        refine a_iload_n dX11_priceOf_35 3 rfl rfl ?_
        obtain ⟨b4, hF⟩ := gd_some hF
        refine a_iald hZ.1 (s 70 0 v3.toNatClampNeg) (hZ.2 70 0 (by decide) (by decide) Nat.one_pos) rfl rfl (inb_vp b4) rfl dX11_priceOf_36 ?_
        refine a_imul dX11_priceOf_37 ?_
        refine a_goto 42 dX11_priceOf_38 (by decide) ?_
        refine a_loc [(0, .ref (za Z 60 0)), (1, .int a1), (3, .int v3)] [0, 1, 3] rfl ?_
        exact w_X11_priceOf_42 (l := l) hZ  (F_X11_priceOf_7 (zg Z) a1 h50_ n_) w7_ h50_ w50_ v3 v2 ((4 : Int32) * (s 70 0 v3.toNatClampNeg))  _ hF
def F_X11_priceOf (g : Nat × Nat) (a1 : Int32)   (s : St) : Option (Int32 × St) := ((F_X11_priceOf_7 g a1 (F_X11_priceOf_50 g a1 ) fu) (s 60 0 9) (0 : Int32) s)
set_option maxRecDepth 100000 in
set_option maxHeartbeats 4000000 in
theorem w_X11_priceOf {Z : ZE} {l : Launch} (hZ : OkM Z) {a1 : Int32}  {R : Int32 × St}    (s : St) (hF : F_X11_priceOf (zg Z) a1  s = some R) : AW Z l iX11_priceOf (Pq (rI R)) 0 0 0 [(0, .ref (za Z 60 0)), (1, .int a1)] [] s := by
  unfold F_X11_priceOf at hF
  refine a_aload_n dX11_priceOf_0 0 rfl rfl ?_
  refine a_getI hZ.1 (s 60 0 9) (hZ.2 60 0 (by decide) (by decide) Nat.one_pos) fl_X11_161 rfl rfl dX11_priceOf_1 ?_
  refine a_istore_n [(2, .int (s 60 0 9)), (0, .ref (za Z 60 0)), (1, .int a1)] dX11_priceOf_4 rfl (by decide) rfl ?_
  refine a_iconst (v := (0 : Int32)) dX11_priceOf_5 (by decide) ?_
  refine a_istore_n [(3, .int (0 : Int32)), (2, .int (s 60 0 9)), (0, .ref (za Z 60 0)), (1, .int a1)] dX11_priceOf_6 rfl (by decide) rfl ?_
  refine a_loc [(0, .ref (za Z 60 0)), (1, .int a1), (2, .int (s 60 0 9)), (3, .int (0 : Int32))] [2, 3, 1, 0] rfl ?_
  exact w_X11_priceOf_7 (l := l) hZ  (F_X11_priceOf_50 (zg Z) a1 ) (w_X11_priceOf_50 (l := l) hZ  ) fu (s 60 0 9) (0 : Int32)  _ hF
theorem m_X11_priceOf {Z : ZE} {l : Launch} (hZ : OkM Z) {a1 : Int32}  {s : St} {R : Int32 × St} (hF : F_X11_priceOf (zg Z) a1 s = some R) : Sp Z l yX11_priceOf iX11_priceOf [.ref (za Z 60 0), .int a1] s (rI R) :=
  Sp.of (by decide) rfl (Nat.le_of_ble_eq_true rfl) (w_X11_priceOf hZ  s hF)
-- X11_price
def F_X11_price (g : Nat × Nat) (a1 : Int32) (a2 : Int32)   (s : St) : Option (Int32 × St) := (bd (F_X11_isSort g a1 (up s 60 0 0 (0 : Int32))) (fun r6 s6 => (if r6 = 0 then (some ((-1000001), s6)) else (bd (F_X11_in g a2.toInt64 (0 : Int64) (1 : Int64) s6) (fun r16 s16 => (if r16 = 0 then (some ((-1000001), s16)) else (if a2 = 0 then (bd (F_X11_priceOf g a1 s16) (fun r33 s33 => (some (r33, s33)))) else (gd (inb a1 4) (some ((s16 77 0 a1.toNatClampNeg), s16))))))))))
set_option maxRecDepth 100000 in
set_option maxHeartbeats 4000000 in
theorem w_X11_price {Z : ZE} {l : Launch} (hZ : OkM Z) {a1 : Int32} {a2 : Int32}  {R : Int32 × St}    (s : St) (hF : F_X11_price (zg Z) a1 a2  s = some R) : AW Z l iX11_price (Pq (rI R)) 0 0 0 [(0, .ref (za Z 60 0)), (1, .int a1), (2, .int a2)] [] s := by
  unfold F_X11_price at hF
  refine a_aload_n dX11_price_0 0 rfl rfl ?_
  refine a_iconst (v := (0 : Int32)) dX11_price_1 (by decide) ?_
  refine a_put hZ.1 (hZ.2 60 0 (by decide) (by decide) Nat.one_pos) fl_X11_1 rfl rfl rfl dX11_price_2 ?_
  refine a_iload_n dX11_price_5 1 rfl rfl ?_
  obtain ⟨r6, s6, e6, hF⟩ := bd_some hF
  refine a_invS hZ.1 (As := [.int a1]) (rest := []) lk_X11_150 ⟨⟨by decide, by decide⟩, by decide, by decide⟩ rfl (Nat.le_of_ble_eq_true rfl) dX11_price_6 (m_X11_isSort hZ  e6) ?_
  show AW Z l iX11_price (Pq (rI R)) 0 0 9 [(0, .ref (za Z 60 0)), (1, .int a1), (2, .int a2)] [.int r6] s6
  refine a_if_eq 22 dX11_price_9 (by decide) (fun c1 => ?_) (fun c1 => ?_)
  · replace hF := (if_pos c1).symm.trans hF
    refine a_ldc (v := (-1000001)) kw_1136 dX11_price_22 ?_
    refine a_goto 45 dX11_price_24 (by decide) ?_
    replace hF := Option.some.inj hF
    subst hF
    exact a_iret rfl (Nat.zero_le _) (Nat.zero_le _) dX11_price_45 ⟨rfl, rfl⟩
  · replace hF := (if_neg c1).symm.trans hF
    refine a_iload_n dX11_price_12 2 rfl rfl ?_
    refine a_i2l dX11_price_13 ?_
    refine a_lconst (v := (0 : Int64)) dX11_price_14 (by decide) ?_
    refine a_lconst (v := (1 : Int64)) dX11_price_15 (by decide) ?_
    obtain ⟨r16, s16, e16, hF⟩ := bd_some hF
    refine a_invS hZ.1 (As := [.long a2.toInt64, .long (0 : Int64), .long (1 : Int64)]) (rest := []) lk_X11_126 ⟨⟨by decide, by decide⟩, by decide, by decide⟩ rfl (Nat.le_of_ble_eq_true rfl) dX11_price_16 (m_X11_in hZ  e16) ?_
    show AW Z l iX11_price (Pq (rI R)) 0 0 19 [(0, .ref (za Z 60 0)), (1, .int a1), (2, .int a2)] [.int r16] s16
    refine a_if_ne 27 dX11_price_19 (by decide) (fun c2 => ?_) (fun c2 => ?_)
    · replace hF := (if_neg c2).symm.trans hF
      refine a_iload_n dX11_price_27 2 rfl rfl ?_
      refine a_if_ne 39 dX11_price_28 (by decide) (fun c3 => ?_) (fun c3 => ?_)
      · replace hF := (if_neg c3).symm.trans hF
        refine a_aload_n dX11_price_39 0 rfl rfl ?_
        refine a_getR hZ.1 (hZ.2 60 0 (by decide) (by decide) Nat.one_pos) fl_X11_70 rfl 0 rfl dX11_price_40 ?_
        refine a_iload_n dX11_price_43 1 rfl rfl ?_
        obtain ⟨b4, hF⟩ := gd_some hF
        refine a_iald hZ.1 (s16 77 0 a1.toNatClampNeg) (hZ.2 77 0 (by decide) (by decide) Nat.one_pos) rfl rfl (inb_vp b4) rfl dX11_price_44 ?_
        replace hF := Option.some.inj hF
        subst hF
        exact a_iret rfl (Nat.zero_le _) (Nat.zero_le _) dX11_price_45 ⟨rfl, rfl⟩
      · replace hF := (if_pos c3).symm.trans hF
        refine a_aload_n dX11_price_31 0 rfl rfl ?_
        refine a_iload_n dX11_price_32 1 rfl rfl ?_
        obtain ⟨r33, s33, e33, hF⟩ := bd_some hF
        refine a_invV hZ.1 (As := [.int a1]) (rest := []) (hZ.2 60 0 (by decide) (by decide) Nat.one_pos) lk_X11_195 ⟨⟨by decide, by decide⟩, by decide, by decide⟩ rfl (Nat.le_of_ble_eq_true rfl) dX11_price_33 (m_X11_priceOf hZ  e33) ?_
        show AW Z l iX11_price (Pq (rI R)) 0 0 36 [(0, .ref (za Z 60 0)), (1, .int a1), (2, .int a2)] [.int r33] s33
        refine a_goto 45 dX11_price_36 (by decide) ?_
        replace hF := Option.some.inj hF
        subst hF
        exact a_iret rfl (Nat.zero_le _) (Nat.zero_le _) dX11_price_45 ⟨rfl, rfl⟩
    · replace hF := (if_pos c2).symm.trans hF
      refine a_ldc (v := (-1000001)) kw_1136 dX11_price_22 ?_
      refine a_goto 45 dX11_price_24 (by decide) ?_
      replace hF := Option.some.inj hF
      subst hF
      exact a_iret rfl (Nat.zero_le _) (Nat.zero_le _) dX11_price_45 ⟨rfl, rfl⟩
theorem m_X11_price {Z : ZE} {l : Launch} (hZ : OkM Z) {a1 : Int32} {a2 : Int32}  {s : St} {R : Int32 × St} (hF : F_X11_price (zg Z) a1 a2 s = some R) : Sp Z l yX11_price iX11_price [.ref (za Z 60 0), .int a1, .int a2] s (rI R) :=
  Sp.of (by decide) rfl (Nat.le_of_ble_eq_true rfl) (w_X11_price hZ  s hF)
-- X11_ran
def F_X11_ran (g : Nat × Nat) (a1 : Int32) (a2 : Int32)   (s : St) : Option (Int32 × St) := (bd (F_X11_in g a1.toInt64 (0 : Int64) (5 : Int64) (up s 60 0 0 (0 : Int32))) (fun r11 s11 => (if r11 = 0 then (some ((-1000001), s11)) else (bd (F_X11_isWeek g a2 s11) (fun r18 s18 => (if r18 = 0 then (some ((-1000001), s18)) else (gd (inb (((100 : Int32) * a1) + a2) 600) (some ((s18 76 0 (((100 : Int32) * a1) + a2).toNatClampNeg), s18)))))))))
set_option maxRecDepth 100000 in
set_option maxHeartbeats 4000000 in
theorem w_X11_ran {Z : ZE} {l : Launch} (hZ : OkM Z) {a1 : Int32} {a2 : Int32}  {R : Int32 × St}    (s : St) (hF : F_X11_ran (zg Z) a1 a2  s = some R) : AW Z l iX11_ran (Pq (rI R)) 0 0 0 [(0, .ref (za Z 60 0)), (1, .int a1), (2, .int a2)] [] s := by
  unfold F_X11_ran at hF
  refine a_aload_n dX11_ran_0 0 rfl rfl ?_
  refine a_iconst (v := (0 : Int32)) dX11_ran_1 (by decide) ?_
  refine a_put hZ.1 (hZ.2 60 0 (by decide) (by decide) Nat.one_pos) fl_X11_1 rfl rfl rfl dX11_ran_2 ?_
  refine a_iload_n dX11_ran_5 1 rfl rfl ?_
  refine a_i2l dX11_ran_6 ?_
  refine a_lconst (v := (0 : Int64)) dX11_ran_7 (by decide) ?_
  refine a_ldc2 (v := (5 : Int64)) kw_1247 dX11_ran_8 ?_
  obtain ⟨r11, s11, e11, hF⟩ := bd_some hF
  refine a_invS hZ.1 (As := [.long a1.toInt64, .long (0 : Int64), .long (5 : Int64)]) (rest := []) lk_X11_126 ⟨⟨by decide, by decide⟩, by decide, by decide⟩ rfl (Nat.le_of_ble_eq_true rfl) dX11_ran_11 (m_X11_in hZ  e11) ?_
  show AW Z l iX11_ran (Pq (rI R)) 0 0 14 [(0, .ref (za Z 60 0)), (1, .int a1), (2, .int a2)] [.int r11] s11
  refine a_if_eq 24 dX11_ran_14 (by decide) (fun c1 => ?_) (fun c1 => ?_)
  · replace hF := (if_pos c1).symm.trans hF
    refine a_ldc (v := (-1000001)) kw_1136 dX11_ran_24 ?_
    refine a_goto 40 dX11_ran_26 (by decide) ?_
    replace hF := Option.some.inj hF
    subst hF
    exact a_iret rfl (Nat.zero_le _) (Nat.zero_le _) dX11_ran_40 ⟨rfl, rfl⟩
  · replace hF := (if_neg c1).symm.trans hF
    refine a_iload_n dX11_ran_17 2 rfl rfl ?_
    obtain ⟨r18, s18, e18, hF⟩ := bd_some hF
    refine a_invS hZ.1 (As := [.int a2]) (rest := []) lk_X11_164 ⟨⟨by decide, by decide⟩, by decide, by decide⟩ rfl (Nat.le_of_ble_eq_true rfl) dX11_ran_18 (m_X11_isWeek hZ  e18) ?_
    show AW Z l iX11_ran (Pq (rI R)) 0 0 21 [(0, .ref (za Z 60 0)), (1, .int a1), (2, .int a2)] [.int r18] s18
    refine a_if_ne 29 dX11_ran_21 (by decide) (fun c2 => ?_) (fun c2 => ?_)
    · replace hF := (if_neg c2).symm.trans hF
      refine a_aload_n dX11_ran_29 0 rfl rfl ?_
      refine a_getR hZ.1 (hZ.2 60 0 (by decide) (by decide) Nat.one_pos) fl_X11_66 rfl 0 rfl dX11_ran_30 ?_
      refine a_bipush (v := (100 : Int32)) dX11_ran_33 (by decide) ?_
      refine a_iload_n dX11_ran_35 1 rfl rfl ?_
      refine a_imul dX11_ran_36 ?_
      refine a_iload_n dX11_ran_37 2 rfl rfl ?_
      refine a_iadd dX11_ran_38 ?_
      obtain ⟨b3, hF⟩ := gd_some hF
      refine a_iald hZ.1 (s18 76 0 (((100 : Int32) * a1) + a2).toNatClampNeg) (hZ.2 76 0 (by decide) (by decide) Nat.one_pos) rfl rfl (inb_vp b3) rfl dX11_ran_39 ?_
      replace hF := Option.some.inj hF
      subst hF
      exact a_iret rfl (Nat.zero_le _) (Nat.zero_le _) dX11_ran_40 ⟨rfl, rfl⟩
    · replace hF := (if_pos c2).symm.trans hF
      refine a_ldc (v := (-1000001)) kw_1136 dX11_ran_24 ?_
      refine a_goto 40 dX11_ran_26 (by decide) ?_
      replace hF := Option.some.inj hF
      subst hF
      exact a_iret rfl (Nat.zero_le _) (Nat.zero_le _) dX11_ran_40 ⟨rfl, rfl⟩
theorem m_X11_ran {Z : ZE} {l : Launch} (hZ : OkM Z) {a1 : Int32} {a2 : Int32}  {s : St} {R : Int32 × St} (hF : F_X11_ran (zg Z) a1 a2 s = some R) : Sp Z l yX11_ran iX11_ran [.ref (za Z 60 0), .int a1, .int a2] s (rI R) :=
  Sp.of (by decide) rfl (Nat.le_of_ble_eq_true rfl) (w_X11_ran hZ  s hF)
-- X11_set
def F_X11_set_99 (g : Nat × Nat) (a1 : Int32) (a2 : Int32) (a3 : Int32)  (x1 : Int32) (x2 : Int32) (s : St) : Option (Int32 × St) := (gd (inb x1 640) (gd (inb (((80 : Int32) * a1) + a2) 640) (some (((up s 63 0 x1.toNatClampNeg x2) 63 0 (((80 : Int32) * a1) + a2).toNatClampNeg), (up s 63 0 x1.toNatClampNeg x2)))))
set_option maxRecDepth 100000 in
set_option maxHeartbeats 4000000 in
theorem w_X11_set_99 {Z : ZE} {l : Launch} (hZ : OkM Z) {a1 : Int32} {a2 : Int32} {a3 : Int32}  {R : Int32 × St}  (x1 : Int32) (x2 : Int32)  (s : St) (hF : F_X11_set_99 (zg Z) a1 a2 a3 x1 x2 s = some R) : AW Z l iX11_set (Pq (rI R)) 0 0 99 [(0, .ref (za Z 60 0)), (1, .int a1), (2, .int a2)] [.int x2, .int x1, .ref (za Z 63 0)] s := by
  unfold F_X11_set_99 at hF
  obtain ⟨b1, hF⟩ := gd_some hF
  refine a_iast hZ.1 (hZ.2 63 0 (by decide) (by decide) Nat.one_pos) rfl rfl (inb_vp b1) dX11_set_99 ?_
  refine a_aload_n dX11_set_100 0 rfl rfl ?_
  refine a_getR hZ.1 (hZ.2 60 0 (by decide) (by decide) Nat.one_pos) fl_X11_24 rfl 0 rfl dX11_set_101 ?_
  refine a_bipush (v := (80 : Int32)) dX11_set_104 (by decide) ?_
  refine a_iload_n dX11_set_106 1 rfl rfl ?_
  refine a_imul dX11_set_107 ?_
  refine a_iload_n dX11_set_108 2 rfl rfl ?_
  refine a_iadd dX11_set_109 ?_
  obtain ⟨b2, hF⟩ := gd_some hF
  refine a_iald hZ.1 ((up s 63 0 x1.toNatClampNeg x2) 63 0 (((80 : Int32) * a1) + a2).toNatClampNeg) (hZ.2 63 0 (by decide) (by decide) Nat.one_pos) rfl rfl (inb_vp b2) rfl dX11_set_110 ?_
  replace hF := Option.some.inj hF
  subst hF
  exact a_iret rfl (Nat.zero_le _) (Nat.zero_le _) dX11_set_111 ⟨rfl, rfl⟩
def F_X11_set (g : Nat × Nat) (a1 : Int32) (a2 : Int32) (a3 : Int32)   (s : St) : Option (Int32 × St) := (bd (F_X11_isSheet g a1 (up s 60 0 0 (0 : Int32))) (fun r6 s6 => (if r6 = 0 then (some ((-1000001), s6)) else (gd (inb a1 8) (if 0 ≤ (s6 61 0 a1.toNatClampNeg) then (gd (inb a1 8) (bd (F_X11_in g a2.toInt64 (0 : Int64) (((s6 62 0 a1.toNatClampNeg) - (1 : Int32)).toInt64) (up s6 60 0 1 (0 : Int32))) (fun r47 s47 => (if r47 = 0 then (bd (F_X11_finding g (2 : Int32) s47) (fun r55 s55 => (some (r55, s55)))) else (gd (inb a1 8) (if (s47 61 0 a1.toNatClampNeg) = 0 then (F_X11_set_99 g a1 a2 a3  (((80 : Int32) * a1) + a2) a3.toInt8.toInt32 s47) else (gd (inb a1 8) (if (s47 61 0 a1.toNatClampNeg) = (1 : Int32) then (F_X11_set_99 g a1 a2 a3  (((80 : Int32) * a1) + a2) a3.toInt16.toInt32 s47) else (F_X11_set_99 g a1 a2 a3  (((80 : Int32) * a1) + a2) a3 s47))))))))) else (bd (F_X11_finding g (1 : Int32) (up s6 60 0 1 (0 : Int32))) (fun r31 s31 => (some (r31, s31)))))))))
set_option maxRecDepth 100000 in
set_option maxHeartbeats 4000000 in
theorem w_X11_set {Z : ZE} {l : Launch} (hZ : OkM Z) {a1 : Int32} {a2 : Int32} {a3 : Int32}  {R : Int32 × St}    (s : St) (hF : F_X11_set (zg Z) a1 a2 a3  s = some R) : AW Z l iX11_set (Pq (rI R)) 0 0 0 [(0, .ref (za Z 60 0)), (1, .int a1), (2, .int a2), (3, .int a3)] [] s := by
  unfold F_X11_set at hF
  refine a_aload_n dX11_set_0 0 rfl rfl ?_
  refine a_iconst (v := (0 : Int32)) dX11_set_1 (by decide) ?_
  refine a_put hZ.1 (hZ.2 60 0 (by decide) (by decide) Nat.one_pos) fl_X11_1 rfl rfl rfl dX11_set_2 ?_
  refine a_iload_n dX11_set_5 1 rfl rfl ?_
  obtain ⟨r6, s6, e6, hF⟩ := bd_some hF
  refine a_invS hZ.1 (As := [.int a1]) (rest := []) lk_X11_130 ⟨⟨by decide, by decide⟩, by decide, by decide⟩ rfl (Nat.le_of_ble_eq_true rfl) dX11_set_6 (m_X11_isSheet hZ  e6) ?_
  show AW Z l iX11_set (Pq (rI R)) 0 0 9 [(0, .ref (za Z 60 0)), (1, .int a1), (2, .int a2), (3, .int a3)] [.int r6] s6
  refine a_if_ne 15 dX11_set_9 (by decide) (fun c1 => ?_) (fun c1 => ?_)
  · replace hF := (if_neg c1).symm.trans hF
    refine a_aload_n dX11_set_15 0 rfl rfl ?_
    refine a_iconst (v := (0 : Int32)) dX11_set_16 (by decide) ?_
    refine a_put hZ.1 (hZ.2 60 0 (by decide) (by decide) Nat.one_pos) fl_X11_7 rfl rfl rfl dX11_set_17 ?_
    refine a_aload_n dX11_set_20 0 rfl rfl ?_
    refine a_getR hZ.1 (hZ.2 60 0 (by decide) (by decide) Nat.one_pos) fl_X11_17 rfl 0 rfl dX11_set_21 ?_
    refine a_iload_n dX11_set_24 1 rfl rfl ?_
    obtain ⟨b2, hF⟩ := gd_some hF
    refine a_iald hZ.1 (s6 61 0 a1.toNatClampNeg) (hZ.2 61 0 (by decide) (by decide) Nat.one_pos) rfl rfl (inb_vp b2) rfl dX11_set_25 ?_
    refine a_if_ge 35 dX11_set_26 (by decide) (fun c3 => ?_) (fun c3 => ?_)
    · replace hF := (if_pos c3).symm.trans hF
      refine a_iload_n dX11_set_35 2 rfl rfl ?_
      refine a_i2l dX11_set_36 ?_
      refine a_lconst (v := (0 : Int64)) dX11_set_37 (by decide) ?_
      refine a_aload_n dX11_set_38 0 rfl rfl ?_
      refine a_getR hZ.1 (hZ.2 60 0 (by decide) (by decide) Nat.one_pos) fl_X11_21 rfl 0 rfl dX11_set_39 ?_
      refine a_iload_n dX11_set_42 1 rfl rfl ?_
      obtain ⟨b4, hF⟩ := gd_some hF
      refine a_iald hZ.1 (s6 62 0 a1.toNatClampNeg) (hZ.2 62 0 (by decide) (by decide) Nat.one_pos) rfl rfl (inb_vp b4) rfl dX11_set_43 ?_
      refine a_iconst (v := (1 : Int32)) dX11_set_44 (by decide) ?_
      refine a_isub dX11_set_45 ?_
      refine a_i2l dX11_set_46 ?_
      obtain ⟨r47, s47, e47, hF⟩ := bd_some hF
      refine a_invS hZ.1 (As := [.long a2.toInt64, .long (0 : Int64), .long ((s6 62 0 a1.toNatClampNeg) - (1 : Int32)).toInt64]) (rest := []) lk_X11_126 ⟨⟨by decide, by decide⟩, by decide, by decide⟩ rfl (Nat.le_of_ble_eq_true rfl) dX11_set_47 (m_X11_in hZ  e47) ?_
      show AW Z l iX11_set (Pq (rI R)) 0 0 50 [(0, .ref (za Z 60 0)), (1, .int a1), (2, .int a2), (3, .int a3)] [.int r47] s47
      refine a_if_ne 59 dX11_set_50 (by decide) (fun c5 => ?_) (fun c5 => ?_)
      · replace hF := (if_neg c5).symm.trans hF
        refine a_aload_n dX11_set_59 0 rfl rfl ?_
        refine a_getR hZ.1 (hZ.2 60 0 (by decide) (by decide) Nat.one_pos) fl_X11_24 rfl 0 rfl dX11_set_60 ?_
        refine a_bipush (v := (80 : Int32)) dX11_set_63 (by decide) ?_
        refine a_iload_n dX11_set_65 1 rfl rfl ?_
        refine a_imul dX11_set_66 ?_
        refine a_iload_n dX11_set_67 2 rfl rfl ?_
        refine a_iadd dX11_set_68 ?_
        refine a_aload_n dX11_set_69 0 rfl rfl ?_
        refine a_getR hZ.1 (hZ.2 60 0 (by decide) (by decide) Nat.one_pos) fl_X11_17 rfl 0 rfl dX11_set_70 ?_
        refine a_iload_n dX11_set_73 1 rfl rfl ?_
        obtain ⟨b6, hF⟩ := gd_some hF
        refine a_iald hZ.1 (s47 61 0 a1.toNatClampNeg) (hZ.2 61 0 (by decide) (by decide) Nat.one_pos) rfl rfl (inb_vp b6) rfl dX11_set_74 ?_
        refine a_if_ne 83 dX11_set_75 (by decide) (fun c7 => ?_) (fun c7 => ?_)
        · replace hF := (if_neg c7).symm.trans hF
          refine a_aload_n dX11_set_83 0 rfl rfl ?_
          refine a_getR hZ.1 (hZ.2 60 0 (by decide) (by decide) Nat.one_pos) fl_X11_17 rfl 0 rfl dX11_set_84 ?_
          refine a_iload_n dX11_set_87 1 rfl rfl ?_
          obtain ⟨b8, hF⟩ := gd_some hF
          refine a_iald hZ.1 (s47 61 0 a1.toNatClampNeg) (hZ.2 61 0 (by decide) (by decide) Nat.one_pos) rfl rfl (inb_vp b8) rfl dX11_set_88 ?_
          refine a_iconst (v := (1 : Int32)) dX11_set_89 (by decide) ?_
          refine a_icmp_ne 98 dX11_set_90 (by decide) (fun c9 => ?_) (fun c9 => ?_)
          · replace hF := (if_neg c9).symm.trans hF
            refine a_iload_n dX11_set_98 3 rfl rfl ?_
            refine a_loc [(0, .ref (za Z 60 0)), (1, .int a1), (2, .int a2)] [0, 1, 2] rfl ?_
            exact w_X11_set_99 (l := l) hZ   (((80 : Int32) * a1) + a2) a3  _ hF
          · replace hF := (if_pos c9).symm.trans hF
            refine a_iload_n dX11_set_93 3 rfl rfl ?_
            refine a_i2s dX11_set_94 ?_
            refine a_goto 99 dX11_set_95 (by decide) ?_
            refine a_loc [(0, .ref (za Z 60 0)), (1, .int a1), (2, .int a2)] [0, 1, 2] rfl ?_
            exact w_X11_set_99 (l := l) hZ   (((80 : Int32) * a1) + a2) a3.toInt16.toInt32  _ hF
        · replace hF := (if_pos c7).symm.trans hF
          refine a_iload_n dX11_set_78 3 rfl rfl ?_
          refine a_i2b dX11_set_79 ?_
          refine a_goto 99 dX11_set_80 (by decide) ?_
          refine a_loc [(0, .ref (za Z 60 0)), (1, .int a1), (2, .int a2)] [0, 1, 2] rfl ?_
          exact w_X11_set_99 (l := l) hZ   (((80 : Int32) * a1) + a2) a3.toInt8.toInt32  _ hF
      · replace hF := (if_pos c5).symm.trans hF
        refine a_aload_n dX11_set_53 0 rfl rfl ?_
        refine a_iconst (v := (2 : Int32)) dX11_set_54 (by decide) ?_
        obtain ⟨r55, s55, e55, hF⟩ := bd_some hF
        refine a_invV hZ.1 (As := [.int (2 : Int32)]) (rest := []) (hZ.2 60 0 (by decide) (by decide) Nat.one_pos) lk_X11_137 ⟨⟨by decide, by decide⟩, by decide, by decide⟩ rfl (Nat.le_of_ble_eq_true rfl) dX11_set_55 (m_X11_finding hZ  e55) ?_
        show AW Z l iX11_set (Pq (rI R)) 0 0 58 [(0, .ref (za Z 60 0)), (1, .int a1), (2, .int a2), (3, .int a3)] [.int r55] s55
        replace hF := Option.some.inj hF
        subst hF
        exact a_iret rfl (Nat.zero_le _) (Nat.zero_le _) dX11_set_58 ⟨rfl, rfl⟩
    · replace hF := (if_neg c3).symm.trans hF
      refine a_aload_n dX11_set_29 0 rfl rfl ?_
      refine a_iconst (v := (1 : Int32)) dX11_set_30 (by decide) ?_
      obtain ⟨r31, s31, e31, hF⟩ := bd_some hF
      refine a_invV hZ.1 (As := [.int (1 : Int32)]) (rest := []) (hZ.2 60 0 (by decide) (by decide) Nat.one_pos) lk_X11_137 ⟨⟨by decide, by decide⟩, by decide, by decide⟩ rfl (Nat.le_of_ble_eq_true rfl) dX11_set_31 (m_X11_finding hZ  e31) ?_
      show AW Z l iX11_set (Pq (rI R)) 0 0 34 [(0, .ref (za Z 60 0)), (1, .int a1), (2, .int a2), (3, .int a3)] [.int r31] s31
      replace hF := Option.some.inj hF
      subst hF
      exact a_iret rfl (Nat.zero_le _) (Nat.zero_le _) dX11_set_34 ⟨rfl, rfl⟩
  · replace hF := (if_pos c1).symm.trans hF
    refine a_ldc (v := (-1000001)) kw_1136 dX11_set_12 ?_
    replace hF := Option.some.inj hF
    subst hF
    exact a_iret rfl (Nat.zero_le _) (Nat.zero_le _) dX11_set_14 ⟨rfl, rfl⟩
theorem m_X11_set {Z : ZE} {l : Launch} (hZ : OkM Z) {a1 : Int32} {a2 : Int32} {a3 : Int32}  {s : St} {R : Int32 × St} (hF : F_X11_set (zg Z) a1 a2 a3 s = some R) : Sp Z l yX11_set iX11_set [.ref (za Z 60 0), .int a1, .int a2, .int a3] s (rI R) :=
  Sp.of (by decide) rfl (Nat.le_of_ble_eq_true rfl) (w_X11_set hZ  s hF)
-- X11_sheet
def F_X11_sheet_65 (g : Nat × Nat) (a1 : Int32) (a2 : Int32) (a3 : Int32)  : Nat → Int32 → St → Option (Int32 × St)
  | 0, _, _ => none
  | n_ + 1, v4, s => (if (80 : Int32) ≤ v4 then (some (a3, s)) else (gd (inb (((80 : Int32) * a1) + v4) 640) (F_X11_sheet_65 g a1 a2 a3  n_ (v4 + 1) (up s 63 0 (((80 : Int32) * a1) + v4).toNatClampNeg (0 : Int32)))))
set_option maxRecDepth 100000 in
set_option maxHeartbeats 4000000 in
theorem w_X11_sheet_65 {Z : ZE} {l : Launch} (hZ : OkM Z) {a1 : Int32} {a2 : Int32} {a3 : Int32}  {R : Int32 × St}  : ∀ (n_ : Nat) (v4 : Int32)  (s : St), F_X11_sheet_65 (zg Z) a1 a2 a3 n_ v4 s = some R → AW Z l iX11_sheet (Pq (rI R)) 0 0 65 [(0, .ref (za Z 60 0)), (1, .int a1), (3, .int a3), (4, .int v4)] [] s := by
  intro n_
  induction n_ with
  | zero =>
    intro v4 s hF
    exact absurd hF (by rw [F_X11_sheet_65]; exact fun q => by cases q)
  | succ n_ w65_ =>
    intro v4 s hF
    rw [F_X11_sheet_65] at hF
    refine a_iload dX11_sheet_65 3 rfl ?_
    refine a_bipush (v := (80 : Int32)) dX11_sheet_67 (by decide) ?_
    refine a_icmp_ge 91 dX11_sheet_69 (by decide) (fun c1 => ?_) (fun c1 => ?_)
    · replace hF := (if_pos c1).symm.trans hF
      refine a_iload_n dX11_sheet_91 2 rfl rfl ?_
      replace hF := Option.some.inj hF
      subst hF
      exact a_iret rfl (Nat.zero_le _) (Nat.zero_le _) dX11_sheet_92 ⟨rfl, rfl⟩
    · replace hF := (if_neg c1).symm.trans hF
      refine a_aload_n dX11_sheet_72 0 rfl rfl ?_
      refine a_getR hZ.1 (hZ.2 60 0 (by decide) (by decide) Nat.one_pos) fl_X11_24 rfl 0 rfl dX11_sheet_73 ?_
      refine a_bipush (v := (80 : Int32)) dX11_sheet_76 (by decide) ?_
      refine a_iload_n dX11_sheet_78 1 rfl rfl ?_
      refine a_imul dX11_sheet_79 ?_
      refine a_iload dX11_sheet_80 3 rfl ?_
      refine a_iadd dX11_sheet_82 ?_
      refine a_iconst (v := (0 : Int32)) dX11_sheet_83 (by decide) ?_
      obtain ⟨b2, hF⟩ := gd_some hF
      refine a_iast hZ.1 (hZ.2 63 0 (by decide) (by decide) Nat.one_pos) rfl rfl (inb_vp b2) dX11_sheet_84 ?_
      refine a_iinc [(4, .int (v4 + 1)), (0, .ref (za Z 60 0)), (1, .int a1), (3, .int a3)] dX11_sheet_85 3 rfl rfl (by decide) rfl ?_
      refine a_goto 65 dX11_sheet_88 (by decide) ?_
      refine a_loc [(0, .ref (za Z 60 0)), (1, .int a1), (3, .int a3), (4, .int (v4 + 1))] [1, 2, 3, 0] rfl ?_
      exact w65_ (v4 + 1)  _ hF
def F_X11_sheet (g : Nat × Nat) (a1 : Int32) (a2 : Int32) (a3 : Int32)   (s : St) : Option (Int32 × St) := (bd (F_X11_isSheet g a1 (up s 60 0 0 (0 : Int32))) (fun r6 s6 => (if r6 = 0 then (some ((-1000001), s6)) else (bd (F_X11_in g a2.toInt64 (0 : Int64) (2 : Int64) s6) (fun r18 s18 => (if r18 = 0 then (some ((-1000001), s18)) else (if a3 ≤ (80 : Int32) then (if 0 ≤ a3 then (gd (inb a1 8) (gd (inb a1 8) (F_X11_sheet_65 g a1 a2 a3  fu (0 : Int32) (up (up (up s18 60 0 1 (0 : Int32)) 61 0 a1.toNatClampNeg a2) 62 0 a1.toNatClampNeg a3)))) else (bd (F_X11_finding g (4 : Int32) (up s18 60 0 1 (0 : Int32))) (fun r44 s44 => (some (r44, s44))))) else (some ((-1000001), s18)))))))))
set_option maxRecDepth 100000 in
set_option maxHeartbeats 4000000 in
theorem w_X11_sheet {Z : ZE} {l : Launch} (hZ : OkM Z) {a1 : Int32} {a2 : Int32} {a3 : Int32}  {R : Int32 × St}    (s : St) (hF : F_X11_sheet (zg Z) a1 a2 a3  s = some R) : AW Z l iX11_sheet (Pq (rI R)) 0 0 0 [(0, .ref (za Z 60 0)), (1, .int a1), (2, .int a2), (3, .int a3)] [] s := by
  unfold F_X11_sheet at hF
  refine a_aload_n dX11_sheet_0 0 rfl rfl ?_
  refine a_iconst (v := (0 : Int32)) dX11_sheet_1 (by decide) ?_
  refine a_put hZ.1 (hZ.2 60 0 (by decide) (by decide) Nat.one_pos) fl_X11_1 rfl rfl rfl dX11_sheet_2 ?_
  refine a_iload_n dX11_sheet_5 1 rfl rfl ?_
  obtain ⟨r6, s6, e6, hF⟩ := bd_some hF
  refine a_invS hZ.1 (As := [.int a1]) (rest := []) lk_X11_130 ⟨⟨by decide, by decide⟩, by decide, by decide⟩ rfl (Nat.le_of_ble_eq_true rfl) dX11_sheet_6 (m_X11_isSheet hZ  e6) ?_
  show AW Z l iX11_sheet (Pq (rI R)) 0 0 9 [(0, .ref (za Z 60 0)), (1, .int a1), (2, .int a2), (3, .int a3)] [.int r6] s6
  refine a_if_eq 30 dX11_sheet_9 (by decide) (fun c1 => ?_) (fun c1 => ?_)
  · replace hF := (if_pos c1).symm.trans hF
    refine a_ldc (v := (-1000001)) kw_1136 dX11_sheet_30 ?_
    replace hF := Option.some.inj hF
    subst hF
    exact a_iret rfl (Nat.zero_le _) (Nat.zero_le _) dX11_sheet_32 ⟨rfl, rfl⟩
  · replace hF := (if_neg c1).symm.trans hF
    refine a_iload_n dX11_sheet_12 2 rfl rfl ?_
    refine a_i2l dX11_sheet_13 ?_
    refine a_lconst (v := (0 : Int64)) dX11_sheet_14 (by decide) ?_
    refine a_ldc2 (v := (2 : Int64)) kw_1135 dX11_sheet_15 ?_
    obtain ⟨r18, s18, e18, hF⟩ := bd_some hF
    refine a_invS hZ.1 (As := [.long a2.toInt64, .long (0 : Int64), .long (2 : Int64)]) (rest := []) lk_X11_126 ⟨⟨by decide, by decide⟩, by decide, by decide⟩ rfl (Nat.le_of_ble_eq_true rfl) dX11_sheet_18 (m_X11_in hZ  e18) ?_
    show AW Z l iX11_sheet (Pq (rI R)) 0 0 21 [(0, .ref (za Z 60 0)), (1, .int a1), (2, .int a2), (3, .int a3)] [.int r18] s18
    refine a_if_eq 30 dX11_sheet_21 (by decide) (fun c2 => ?_) (fun c2 => ?_)
    · replace hF := (if_pos c2).symm.trans hF
      refine a_ldc (v := (-1000001)) kw_1136 dX11_sheet_30 ?_
      replace hF := Option.some.inj hF
      subst hF
      exact a_iret rfl (Nat.zero_le _) (Nat.zero_le _) dX11_sheet_32 ⟨rfl, rfl⟩
    · replace hF := (if_neg c2).symm.trans hF
      refine a_iload_n dX11_sheet_24 3 rfl rfl ?_
      refine a_bipush (v := (80 : Int32)) dX11_sheet_25 (by decide) ?_
      refine a_icmp_le 33 dX11_sheet_27 (by decide) (fun c3 => ?_) (fun c3 => ?_)
      · replace hF := (if_pos c3).symm.trans hF
        refine a_aload_n dX11_sheet_33 0 rfl rfl ?_
        refine a_iconst (v := (0 : Int32)) dX11_sheet_34 (by decide) ?_
        refine a_put hZ.1 (hZ.2 60 0 (by decide) (by decide) Nat.one_pos) fl_X11_7 rfl rfl rfl dX11_sheet_35 ?_
        refine a_iload_n dX11_sheet_38 3 rfl rfl ?_
        refine a_if_ge 48 dX11_sheet_39 (by decide) (fun c4 => ?_) (fun c4 => ?_)
        · replace hF := (if_pos c4).symm.trans hF
          refine a_aload_n dX11_sheet_48 0 rfl rfl ?_
          refine a_getR hZ.1 (hZ.2 60 0 (by decide) (by decide) Nat.one_pos) fl_X11_17 rfl 0 rfl dX11_sheet_49 ?_
          refine a_iload_n dX11_sheet_52 1 rfl rfl ?_
          refine a_iload_n dX11_sheet_53 2 rfl rfl ?_
          obtain ⟨b5, hF⟩ := gd_some hF
          refine a_iast hZ.1 (hZ.2 61 0 (by decide) (by decide) Nat.one_pos) rfl rfl (inb_vp b5) dX11_sheet_54 ?_
          refine a_aload_n dX11_sheet_55 0 rfl rfl ?_
          refine a_getR hZ.1 (hZ.2 60 0 (by decide) (by decide) Nat.one_pos) fl_X11_21 rfl 0 rfl dX11_sheet_56 ?_
          refine a_iload_n dX11_sheet_59 1 rfl rfl ?_
          refine a_iload_n dX11_sheet_60 3 rfl rfl ?_
          obtain ⟨b6, hF⟩ := gd_some hF
          refine a_iast hZ.1 (hZ.2 62 0 (by decide) (by decide) Nat.one_pos) rfl rfl (inb_vp b6) dX11_sheet_61 ?_
          refine a_iconst (v := (0 : Int32)) dX11_sheet_62 (by decide) ?_
          refine a_istore [(4, .int (0 : Int32)), (0, .ref (za Z 60 0)), (1, .int a1), (2, .int a2), (3, .int a3)] dX11_sheet_63 (by decide) rfl ?_
          refine a_loc [(0, .ref (za Z 60 0)), (1, .int a1), (3, .int a3), (4, .int (0 : Int32))] [1, 2, 4, 0] rfl ?_
          exact w_X11_sheet_65 (l := l) hZ   fu (0 : Int32)  _ hF
        · replace hF := (if_neg c4).symm.trans hF
          refine a_aload_n dX11_sheet_42 0 rfl rfl ?_
          refine a_iconst (v := (4 : Int32)) dX11_sheet_43 (by decide) ?_
          obtain ⟨r44, s44, e44, hF⟩ := bd_some hF
          refine a_invV hZ.1 (As := [.int (4 : Int32)]) (rest := []) (hZ.2 60 0 (by decide) (by decide) Nat.one_pos) lk_X11_137 ⟨⟨by decide, by decide⟩, by decide, by decide⟩ rfl (Nat.le_of_ble_eq_true rfl) dX11_sheet_44 (m_X11_finding hZ  e44) ?_
          show AW Z l iX11_sheet (Pq (rI R)) 0 0 47 [(0, .ref (za Z 60 0)), (1, .int a1), (2, .int a2), (3, .int a3)] [.int r44] s44
          replace hF := Option.some.inj hF
          subst hF
          exact a_iret rfl (Nat.zero_le _) (Nat.zero_le _) dX11_sheet_47 ⟨rfl, rfl⟩
      · replace hF := (if_neg c3).symm.trans hF
        refine a_ldc (v := (-1000001)) kw_1136 dX11_sheet_30 ?_
        replace hF := Option.some.inj hF
        subst hF
        exact a_iret rfl (Nat.zero_le _) (Nat.zero_le _) dX11_sheet_32 ⟨rfl, rfl⟩
theorem m_X11_sheet {Z : ZE} {l : Launch} (hZ : OkM Z) {a1 : Int32} {a2 : Int32} {a3 : Int32}  {s : St} {R : Int32 × St} (hF : F_X11_sheet (zg Z) a1 a2 a3 s = some R) : Sp Z l yX11_sheet iX11_sheet [.ref (za Z 60 0), .int a1, .int a2, .int a3] s (rI R) :=
  Sp.of (by decide) rfl (Nat.le_of_ble_eq_true rfl) (w_X11_sheet hZ  s hF)
-- X11_ship
def F_X11_ship (g : Nat × Nat) (a1 : Int32) (a2 : Int32) (a3 : Int32) (a4 : Int32)   (s : St) : Option (Int32 × St) := (bd (F_X11_isWeek g a1 (up s 60 0 0 (0 : Int32))) (fun r6 s6 => (if r6 = 0 then (some ((-1000001), s6)) else (bd (F_X11_isSort g a2 s6) (fun r13 s13 => (if r13 = 0 then (some ((-1000001), s13)) else (bd (F_X11_in g a3.toInt64 (1 : Int64) (500 : Int64) s13) (fun r25 s25 => (if r25 = 0 then (some ((-1000001), s25)) else (bd (F_X11_in g a4.toInt64 (0 : Int64) (1 : Int64) s25) (fun r36 s36 => (if r36 = 0 then (some ((-1000001), s36)) else (if (s36 60 0 11) = (30 : Int32) then (some ((-1000003), s36)) else (gd (inb (s36 60 0 11) 30) (gd (inb (s36 60 0 11) 30) (gd (inb (s36 60 0 11) 30) (some (((s36 60 0 11) + (1 : Int32)), (up (up (up (up s36 67 0 (s36 60 0 11).toNatClampNeg a1) 68 0 (s36 60 0 11).toNatClampNeg a2) 69 0 (s36 60 0 11).toNatClampNeg (a4 * a3)) 60 0 11 ((s36 60 0 11) + (1 : Int32)))))))))))))))))))))
set_option maxRecDepth 100000 in
set_option maxHeartbeats 4000000 in
theorem w_X11_ship {Z : ZE} {l : Launch} (hZ : OkM Z) {a1 : Int32} {a2 : Int32} {a3 : Int32} {a4 : Int32}  {R : Int32 × St}    (s : St) (hF : F_X11_ship (zg Z) a1 a2 a3 a4  s = some R) : AW Z l iX11_ship (Pq (rI R)) 0 0 0 [(0, .ref (za Z 60 0)), (1, .int a1), (2, .int a2), (3, .int a3), (4, .int a4)] [] s := by
  unfold F_X11_ship at hF
  refine a_aload_n dX11_ship_0 0 rfl rfl ?_
  refine a_iconst (v := (0 : Int32)) dX11_ship_1 (by decide) ?_
  refine a_put hZ.1 (hZ.2 60 0 (by decide) (by decide) Nat.one_pos) fl_X11_1 rfl rfl rfl dX11_ship_2 ?_
  refine a_iload_n dX11_ship_5 1 rfl rfl ?_
  obtain ⟨r6, s6, e6, hF⟩ := bd_some hF
  refine a_invS hZ.1 (As := [.int a1]) (rest := []) lk_X11_164 ⟨⟨by decide, by decide⟩, by decide, by decide⟩ rfl (Nat.le_of_ble_eq_true rfl) dX11_ship_6 (m_X11_isWeek hZ  e6) ?_
  show AW Z l iX11_ship (Pq (rI R)) 0 0 9 [(0, .ref (za Z 60 0)), (1, .int a1), (2, .int a2), (3, .int a3), (4, .int a4)] [.int r6] s6
  refine a_if_eq 42 dX11_ship_9 (by decide) (fun c1 => ?_) (fun c1 => ?_)
  · replace hF := (if_pos c1).symm.trans hF
    refine a_ldc (v := (-1000001)) kw_1136 dX11_ship_42 ?_
    replace hF := Option.some.inj hF
    subst hF
    exact a_iret rfl (Nat.zero_le _) (Nat.zero_le _) dX11_ship_44 ⟨rfl, rfl⟩
  · replace hF := (if_neg c1).symm.trans hF
    refine a_iload_n dX11_ship_12 2 rfl rfl ?_
    obtain ⟨r13, s13, e13, hF⟩ := bd_some hF
    refine a_invS hZ.1 (As := [.int a2]) (rest := []) lk_X11_150 ⟨⟨by decide, by decide⟩, by decide, by decide⟩ rfl (Nat.le_of_ble_eq_true rfl) dX11_ship_13 (m_X11_isSort hZ  e13) ?_
    show AW Z l iX11_ship (Pq (rI R)) 0 0 16 [(0, .ref (za Z 60 0)), (1, .int a1), (2, .int a2), (3, .int a3), (4, .int a4)] [.int r13] s13
    refine a_if_eq 42 dX11_ship_16 (by decide) (fun c2 => ?_) (fun c2 => ?_)
    · replace hF := (if_pos c2).symm.trans hF
      refine a_ldc (v := (-1000001)) kw_1136 dX11_ship_42 ?_
      replace hF := Option.some.inj hF
      subst hF
      exact a_iret rfl (Nat.zero_le _) (Nat.zero_le _) dX11_ship_44 ⟨rfl, rfl⟩
    · replace hF := (if_neg c2).symm.trans hF
      refine a_iload_n dX11_ship_19 3 rfl rfl ?_
      refine a_i2l dX11_ship_20 ?_
      refine a_lconst (v := (1 : Int64)) dX11_ship_21 (by decide) ?_
      refine a_ldc2 (v := (500 : Int64)) kw_1175 dX11_ship_22 ?_
      obtain ⟨r25, s25, e25, hF⟩ := bd_some hF
      refine a_invS hZ.1 (As := [.long a3.toInt64, .long (1 : Int64), .long (500 : Int64)]) (rest := []) lk_X11_126 ⟨⟨by decide, by decide⟩, by decide, by decide⟩ rfl (Nat.le_of_ble_eq_true rfl) dX11_ship_25 (m_X11_in hZ  e25) ?_
      show AW Z l iX11_ship (Pq (rI R)) 0 0 28 [(0, .ref (za Z 60 0)), (1, .int a1), (2, .int a2), (3, .int a3), (4, .int a4)] [.int r25] s25
      refine a_if_eq 42 dX11_ship_28 (by decide) (fun c3 => ?_) (fun c3 => ?_)
      · replace hF := (if_pos c3).symm.trans hF
        refine a_ldc (v := (-1000001)) kw_1136 dX11_ship_42 ?_
        replace hF := Option.some.inj hF
        subst hF
        exact a_iret rfl (Nat.zero_le _) (Nat.zero_le _) dX11_ship_44 ⟨rfl, rfl⟩
      · replace hF := (if_neg c3).symm.trans hF
        refine a_iload dX11_ship_31 4 rfl ?_
        refine a_i2l dX11_ship_33 ?_
        refine a_lconst (v := (0 : Int64)) dX11_ship_34 (by decide) ?_
        refine a_lconst (v := (1 : Int64)) dX11_ship_35 (by decide) ?_
        obtain ⟨r36, s36, e36, hF⟩ := bd_some hF
        refine a_invS hZ.1 (As := [.long a4.toInt64, .long (0 : Int64), .long (1 : Int64)]) (rest := []) lk_X11_126 ⟨⟨by decide, by decide⟩, by decide, by decide⟩ rfl (Nat.le_of_ble_eq_true rfl) dX11_ship_36 (m_X11_in hZ  e36) ?_
        show AW Z l iX11_ship (Pq (rI R)) 0 0 39 [(0, .ref (za Z 60 0)), (1, .int a1), (2, .int a2), (3, .int a3), (4, .int a4)] [.int r36] s36
        refine a_if_ne 45 dX11_ship_39 (by decide) (fun c4 => ?_) (fun c4 => ?_)
        · replace hF := (if_neg c4).symm.trans hF
          refine a_aload_n dX11_ship_45 0 rfl rfl ?_
          refine a_getI hZ.1 (s36 60 0 11) (hZ.2 60 0 (by decide) (by decide) Nat.one_pos) fl_X11_169 rfl rfl dX11_ship_46 ?_
          refine a_bipush (v := (30 : Int32)) dX11_ship_49 (by decide) ?_
          refine a_icmp_ne 57 dX11_ship_51 (by decide) (fun c5 => ?_) (fun c5 => ?_)
          · replace hF := (if_neg c5).symm.trans hF
            refine a_aload_n dX11_ship_57 0 rfl rfl ?_
            refine a_getR hZ.1 (hZ.2 60 0 (by decide) (by decide) Nat.one_pos) fl_X11_39 rfl 0 rfl dX11_ship_58 ?_
            refine a_aload_n dX11_ship_61 0 rfl rfl ?_
            refine a_getI hZ.1 (s36 60 0 11) (hZ.2 60 0 (by decide) (by decide) Nat.one_pos) fl_X11_169 rfl rfl dX11_ship_62 ?_
            refine a_iload_n dX11_ship_65 1 rfl rfl ?_
            obtain ⟨b6, hF⟩ := gd_some hF
            refine a_iast hZ.1 (hZ.2 67 0 (by decide) (by decide) Nat.one_pos) rfl rfl (inb_vp b6) dX11_ship_66 ?_
            refine a_aload_n dX11_ship_67 0 rfl rfl ?_
            refine a_getR hZ.1 (hZ.2 60 0 (by decide) (by decide) Nat.one_pos) fl_X11_42 rfl 0 rfl dX11_ship_68 ?_
            refine a_aload_n dX11_ship_71 0 rfl rfl ?_
            refine a_getI hZ.1 (s36 60 0 11) (hZ.2 60 0 (by decide) (by decide) Nat.one_pos) fl_X11_169 rfl rfl dX11_ship_72 ?_
            refine a_iload_n dX11_ship_75 2 rfl rfl ?_
            obtain ⟨b7, hF⟩ := gd_some hF
            refine a_iast hZ.1 (hZ.2 68 0 (by decide) (by decide) Nat.one_pos) rfl rfl (inb_vp b7) dX11_ship_76 ?_
            refine a_aload_n dX11_ship_77 0 rfl rfl ?_
            refine a_getR hZ.1 (hZ.2 60 0 (by decide) (by decide) Nat.one_pos) fl_X11_45 rfl 0 rfl dX11_ship_78 ?_
            refine a_aload_n dX11_ship_81 0 rfl rfl ?_
            refine a_getI hZ.1 (s36 60 0 11) (hZ.2 60 0 (by decide) (by decide) Nat.one_pos) fl_X11_169 rfl rfl dX11_ship_82 ?_
            refine a_iload dX11_ship_85 4 rfl ?_
            refine a_iload_n dX11_ship_87 3 rfl rfl ?_
            refine a_imul dX11_ship_88 ?_
            obtain ⟨b8, hF⟩ := gd_some hF
            refine a_iast hZ.1 (hZ.2 69 0 (by decide) (by decide) Nat.one_pos) rfl rfl (inb_vp b8) dX11_ship_89 ?_
            refine a_aload_n dX11_ship_90 0 rfl rfl ?_
            refine a_dup dX11_ship_91 rfl ?_
            refine a_getI hZ.1 (s36 60 0 11) (hZ.2 60 0 (by decide) (by decide) Nat.one_pos) fl_X11_169 rfl rfl dX11_ship_92 ?_
            refine a_iconst (v := (1 : Int32)) dX11_ship_95 (by decide) ?_
            refine a_iadd dX11_ship_96 ?_
            refine a_put hZ.1 (hZ.2 60 0 (by decide) (by decide) Nat.one_pos) fl_X11_169 rfl rfl rfl dX11_ship_97 ?_
            refine a_aload_n dX11_ship_100 0 rfl rfl ?_
            refine a_getI hZ.1 ((s36 60 0 11) + (1 : Int32)) (hZ.2 60 0 (by decide) (by decide) Nat.one_pos) fl_X11_169 rfl (by simp [up]) dX11_ship_101 ?_
            replace hF := Option.some.inj hF
            subst hF
            exact a_iret rfl (Nat.zero_le _) (Nat.zero_le _) dX11_ship_104 ⟨rfl, rfl⟩
          · replace hF := (if_pos c5).symm.trans hF
            refine a_ldc (v := (-1000003)) kw_1176 dX11_ship_54 ?_
            replace hF := Option.some.inj hF
            subst hF
            exact a_iret rfl (Nat.zero_le _) (Nat.zero_le _) dX11_ship_56 ⟨rfl, rfl⟩
        · replace hF := (if_pos c4).symm.trans hF
          refine a_ldc (v := (-1000001)) kw_1136 dX11_ship_42 ?_
          replace hF := Option.some.inj hF
          subst hF
          exact a_iret rfl (Nat.zero_le _) (Nat.zero_le _) dX11_ship_44 ⟨rfl, rfl⟩
theorem m_X11_ship {Z : ZE} {l : Launch} (hZ : OkM Z) {a1 : Int32} {a2 : Int32} {a3 : Int32} {a4 : Int32}  {s : St} {R : Int32 × St} (hF : F_X11_ship (zg Z) a1 a2 a3 a4 s = some R) : Sp Z l yX11_ship iX11_ship [.ref (za Z 60 0), .int a1, .int a2, .int a3, .int a4] s (rI R) :=
  Sp.of (by decide) rfl (Nat.le_of_ble_eq_true rfl) (w_X11_ship hZ  s hF)
-- X11_status
def F_X11_status (g : Nat × Nat)    (s : St) : Option (Int32 × St) := (some ((s 60 0 1), (up s 60 0 0 (0 : Int32))))
set_option maxRecDepth 100000 in
set_option maxHeartbeats 4000000 in
theorem w_X11_status {Z : ZE} {l : Launch} (hZ : OkM Z)   {R : Int32 × St}    (s : St) (hF : F_X11_status (zg Z)   s = some R) : AW Z l iX11_status (Pq (rI R)) 0 0 0 [(0, .ref (za Z 60 0))] [] s := by
  unfold F_X11_status at hF
  refine a_aload_n dX11_status_0 0 rfl rfl ?_
  refine a_iconst (v := (0 : Int32)) dX11_status_1 (by decide) ?_
  refine a_put hZ.1 (hZ.2 60 0 (by decide) (by decide) Nat.one_pos) fl_X11_1 rfl rfl rfl dX11_status_2 ?_
  refine a_aload_n dX11_status_5 0 rfl rfl ?_
  refine a_getI hZ.1 (s 60 0 1) (hZ.2 60 0 (by decide) (by decide) Nat.one_pos) fl_X11_7 rfl (by simp [up]) dX11_status_6 ?_
  replace hF := Option.some.inj hF
  subst hF
  exact a_iret rfl (Nat.zero_le _) (Nat.zero_le _) dX11_status_9 ⟨rfl, rfl⟩
theorem m_X11_status {Z : ZE} {l : Launch} (hZ : OkM Z)   {s : St} {R : Int32 × St} (hF : F_X11_status (zg Z)  s = some R) : Sp Z l yX11_status iX11_status [.ref (za Z 60 0)] s (rI R) :=
  Sp.of (by decide) rfl (Nat.le_of_ble_eq_true rfl) (w_X11_status hZ  s hF)
-- X11_work
def F_X11_work_324 (g : Nat × Nat) (a1 : Int32) (h243_ : Int32 → St → Option (Unit × St)) (v3 : Int32) (s : St) : Option (Unit × St) := (h243_ (v3 + 1) s)
set_option maxRecDepth 100000 in
set_option maxHeartbeats 4000000 in
theorem w_X11_work_324 {Z : ZE} {l : Launch} (hZ : OkM Z) {a1 : Int32}  {R : Unit × St} (h243_ : Int32 → St → Option (Unit × St)) (w243_ : ∀ (v3 : Int32)  (s : St), h243_ v3 s = some R → AW Z l iX11_work (Pq (rU R)) 0 0 243 [(0, .ref (za Z 60 0)), (1, .int a1), (3, .int v3)] [] s) (v3 : Int32)  (s : St) (hF : F_X11_work_324 (zg Z) a1 h243_ v3 s = some R) : AW Z l iX11_work (Pq (rU R)) 0 0 324 [(0, .ref (za Z 60 0)), (1, .int a1), (3, .int v3)] [] s := by
  unfold F_X11_work_324 at hF
  refine a_iinc [(3, .int (v3 + 1)), (0, .ref (za Z 60 0)), (1, .int a1)] dX11_work_324 2 rfl rfl (by decide) rfl ?_
  refine a_goto 243 dX11_work_327 (by decide) ?_
  refine a_loc [(0, .ref (za Z 60 0)), (1, .int a1), (3, .int (v3 + 1))] [1, 2, 0] rfl ?_
  exact w243_ (v3 + 1)  _ hF
def F_X11_work_243 (g : Nat × Nat) (a1 : Int32)  : Nat → Int32 → St → Option (Unit × St)
  | 0, _, _ => none
  | n_ + 1, v3, s => (if (4 : Int32) ≤ v3 then (some ((), s)) else (gd (inb a1 6) (if (s 73 0 a1.toNatClampNeg) ≤ 0 then (F_X11_work_324 g a1 (F_X11_work_243 g a1  n_) v3 s) else (gd (inb v3 4) (gd (inb a1 6) (if (s 77 0 v3.toNatClampNeg) < (s 73 0 a1.toNatClampNeg) then (F_X11_work_324 g a1 (F_X11_work_243 g a1  n_) v3 s) else (gd (inb (((4 : Int32) * a1) + v3) 24) (gd (inb v3 4) (bd (F_X11_earnCoin g a1 ((s 74 0 (((4 : Int32) * a1) + v3).toNatClampNeg) * (s 77 0 v3.toNatClampNeg)) s) (fun r291 s291 => (gd (inb v3 4) (gd (inb (((4 : Int32) * a1) + v3) 24) (gd (inb v3 4) (gd (inb (((4 : Int32) * a1) + v3) 24) (F_X11_work_324 g a1 (F_X11_work_243 g a1  n_) v3 (up (up s291 66 0 v3.toNatClampNeg ((s291 66 0 v3.toNatClampNeg) + (s291 74 0 (((4 : Int32) * a1) + v3).toNatClampNeg))) 74 0 (((4 : Int32) * a1) + v3).toNatClampNeg (0 : Int32)))))))))))))))))
set_option maxRecDepth 100000 in
set_option maxHeartbeats 4000000 in
theorem w_X11_work_243 {Z : ZE} {l : Launch} (hZ : OkM Z) {a1 : Int32}  {R : Unit × St}  : ∀ (n_ : Nat) (v3 : Int32)  (s : St), F_X11_work_243 (zg Z) a1 n_ v3 s = some R → AW Z l iX11_work (Pq (rU R)) 0 0 243 [(0, .ref (za Z 60 0)), (1, .int a1), (3, .int v3)] [] s := by
  intro n_
  induction n_ with
  | zero =>
    intro v3 s hF
    exact absurd hF (by rw [F_X11_work_243]; exact fun q => by cases q)
  | succ n_ w243_ =>
    intro v3 s hF
    rw [F_X11_work_243] at hF
    refine a_iload_n dX11_work_243 2 rfl rfl ?_
    refine a_iconst (v := (4 : Int32)) dX11_work_244 (by decide) ?_
    refine a_icmp_ge 330 dX11_work_245 (by decide) (fun c1 => ?_) (fun c1 => ?_)
    · replace hF := (if_pos c1).symm.trans hF
      replace hF := Option.some.inj hF
      subst hF
      exact a_vret rfl (Nat.zero_le _) (Nat.zero_le _) dX11_work_330 ⟨rfl, rfl⟩
    · replace hF := (if_neg c1).symm.trans hF
      refine a_aload_n dX11_work_248 0 rfl rfl ?_
      refine a_getR hZ.1 (hZ.2 60 0 (by decide) (by decide) Nat.one_pos) fl_X11_57 rfl 0 rfl dX11_work_249 ?_
      refine a_iload_n dX11_work_252 1 rfl rfl ?_
      obtain ⟨b2, hF⟩ := gd_some hF
      refine a_iald hZ.1 (s 73 0 a1.toNatClampNeg) (hZ.2 73 0 (by decide) (by decide) Nat.one_pos) rfl rfl (inb_vp b2) rfl dX11_work_253 ?_
      refine a_if_le 324 dX11_work_254 (by decide) (fun c3 => ?_) (fun c3 => ?_)
      · replace hF := (if_pos c3).symm.trans hF
        exact w_X11_work_324 (l := l) hZ  (F_X11_work_243 (zg Z) a1 n_) w243_ v3  _ hF
      · replace hF := (if_neg c3).symm.trans hF
        refine a_aload_n dX11_work_257 0 rfl rfl ?_
        refine a_getR hZ.1 (hZ.2 60 0 (by decide) (by decide) Nat.one_pos) fl_X11_70 rfl 0 rfl dX11_work_258 ?_
        refine a_iload_n dX11_work_261 2 rfl rfl ?_
        obtain ⟨b4, hF⟩ := gd_some hF
        refine a_iald hZ.1 (s 77 0 v3.toNatClampNeg) (hZ.2 77 0 (by decide) (by decide) Nat.one_pos) rfl rfl (inb_vp b4) rfl dX11_work_262 ?_
        refine a_aload_n dX11_work_263 0 rfl rfl ?_
        refine a_getR hZ.1 (hZ.2 60 0 (by decide) (by decide) Nat.one_pos) fl_X11_57 rfl 0 rfl dX11_work_264 ?_
        refine a_iload_n dX11_work_267 1 rfl rfl ?_
        obtain ⟨b5, hF⟩ := gd_some hF
        refine a_iald hZ.1 (s 73 0 a1.toNatClampNeg) (hZ.2 73 0 (by decide) (by decide) Nat.one_pos) rfl rfl (inb_vp b5) rfl dX11_work_268 ?_
        refine a_icmp_lt 324 dX11_work_269 (by decide) (fun c6 => ?_) (fun c6 => ?_)
        · replace hF := (if_pos c6).symm.trans hF
          exact w_X11_work_324 (l := l) hZ  (F_X11_work_243 (zg Z) a1 n_) w243_ v3  _ hF
        · replace hF := (if_neg c6).symm.trans hF
          refine a_aload_n dX11_work_272 0 rfl rfl ?_
          refine a_iload_n dX11_work_273 1 rfl rfl ?_
          refine a_aload_n dX11_work_274 0 rfl rfl ?_
          refine a_getR hZ.1 (hZ.2 60 0 (by decide) (by decide) Nat.one_pos) fl_X11_60 rfl 0 rfl dX11_work_275 ?_
          refine a_iconst (v := (4 : Int32)) dX11_work_278 (by decide) ?_
          refine a_iload_n dX11_work_279 1 rfl rfl ?_
          refine a_imul dX11_work_280 ?_
          refine a_iload_n dX11_work_281 2 rfl rfl ?_
          refine a_iadd dX11_work_282 ?_
          obtain ⟨b7, hF⟩ := gd_some hF
          refine a_iald hZ.1 (s 74 0 (((4 : Int32) * a1) + v3).toNatClampNeg) (hZ.2 74 0 (by decide) (by decide) Nat.one_pos) rfl rfl (inb_vp b7) rfl dX11_work_283 ?_
          refine a_aload_n dX11_work_284 0 rfl rfl ?_
          refine a_getR hZ.1 (hZ.2 60 0 (by decide) (by decide) Nat.one_pos) fl_X11_70 rfl 0 rfl dX11_work_285 ?_
          refine a_iload_n dX11_work_288 2 rfl rfl ?_
          obtain ⟨b8, hF⟩ := gd_some hF
          refine a_iald hZ.1 (s 77 0 v3.toNatClampNeg) (hZ.2 77 0 (by decide) (by decide) Nat.one_pos) rfl rfl (inb_vp b8) rfl dX11_work_289 ?_
          refine a_imul dX11_work_290 ?_
          obtain ⟨r291, s291, e291, hF⟩ := bd_some hF
          refine a_invV hZ.1 (As := [.int a1, .int ((s 74 0 (((4 : Int32) * a1) + v3).toNatClampNeg) * (s 77 0 v3.toNatClampNeg))]) (rest := []) (hZ.2 60 0 (by decide) (by decide) Nat.one_pos) lk_X11_191 ⟨⟨by decide, by decide⟩, by decide, by decide⟩ rfl (Nat.le_of_ble_eq_true rfl) dX11_work_291 (m_X11_earnCoin hZ  e291) ?_
          show AW Z l iX11_work (Pq (rU R)) 0 0 294 [(0, .ref (za Z 60 0)), (1, .int a1), (3, .int v3)] [] s291
          refine a_aload_n dX11_work_294 0 rfl rfl ?_
          refine a_getR hZ.1 (hZ.2 60 0 (by decide) (by decide) Nat.one_pos) fl_X11_33 rfl 0 rfl dX11_work_295 ?_
          refine a_iload_n dX11_work_298 2 rfl rfl ?_
          refine a_dup2 dX11_work_299 rfl rfl ?_
          obtain ⟨b9, hF⟩ := gd_some hF
          refine a_iald hZ.1 (s291 66 0 v3.toNatClampNeg) (hZ.2 66 0 (by decide) (by decide) Nat.one_pos) rfl rfl (inb_vp b9) rfl dX11_work_300 ?_
          refine a_aload_n dX11_work_301 0 rfl rfl ?_
          refine a_getR hZ.1 (hZ.2 60 0 (by decide) (by decide) Nat.one_pos) fl_X11_60 rfl 0 rfl dX11_work_302 ?_
          refine a_iconst (v := (4 : Int32)) dX11_work_305 (by decide) ?_
          refine a_iload_n dX11_work_306 1 rfl rfl ?_
          refine a_imul dX11_work_307 ?_
          refine a_iload_n dX11_work_308 2 rfl rfl ?_
          refine a_iadd dX11_work_309 ?_
          obtain ⟨b10, hF⟩ := gd_some hF
          refine a_iald hZ.1 (s291 74 0 (((4 : Int32) * a1) + v3).toNatClampNeg) (hZ.2 74 0 (by decide) (by decide) Nat.one_pos) rfl rfl (inb_vp b10) rfl dX11_work_310 ?_
          refine a_iadd dX11_work_311 ?_
          obtain ⟨b11, hF⟩ := gd_some hF
          refine a_iast hZ.1 (hZ.2 66 0 (by decide) (by decide) Nat.one_pos) rfl rfl (inb_vp b11) dX11_work_312 ?_
          refine a_aload_n dX11_work_313 0 rfl rfl ?_
          refine a_getR hZ.1 (hZ.2 60 0 (by decide) (by decide) Nat.one_pos) fl_X11_60 rfl 0 rfl dX11_work_314 ?_
          refine a_iconst (v := (4 : Int32)) dX11_work_317 (by decide) ?_
          refine a_iload_n dX11_work_318 1 rfl rfl ?_
          refine a_imul dX11_work_319 ?_
          refine a_iload_n dX11_work_320 2 rfl rfl ?_
          refine a_iadd dX11_work_321 ?_
          refine a_iconst (v := (0 : Int32)) dX11_work_322 (by decide) ?_
          obtain ⟨b12, hF⟩ := gd_some hF
          refine a_iast hZ.1 (hZ.2 74 0 (by decide) (by decide) Nat.one_pos) rfl rfl (inb_vp b12) dX11_work_323 ?_
          exact w_X11_work_324 (l := l) hZ  (F_X11_work_243 (zg Z) a1 n_) w243_ v3  _ hF
def F_X11_work_241 (g : Nat × Nat) (a1 : Int32)   (s : St) : Option (Unit × St) := (F_X11_work_243 g a1  fu (0 : Int32) s)
set_option maxRecDepth 100000 in
set_option maxHeartbeats 4000000 in
theorem w_X11_work_241 {Z : ZE} {l : Launch} (hZ : OkM Z) {a1 : Int32}  {R : Unit × St}    (s : St) (hF : F_X11_work_241 (zg Z) a1  s = some R) : AW Z l iX11_work (Pq (rU R)) 0 0 241 [(0, .ref (za Z 60 0)), (1, .int a1)] [] s := by
  unfold F_X11_work_241 at hF
  refine a_iconst (v := (0 : Int32)) dX11_work_241 (by decide) ?_
  refine a_istore_n [(3, .int (0 : Int32)), (0, .ref (za Z 60 0)), (1, .int a1)] dX11_work_242 rfl (by decide) rfl ?_
  refine a_loc [(0, .ref (za Z 60 0)), (1, .int a1), (3, .int (0 : Int32))] [1, 2, 0] rfl ?_
  exact w_X11_work_243 (l := l) hZ   fu (0 : Int32)  _ hF
def F_X11_work_159 (g : Nat × Nat) (a1 : Int32)  (v2 : Int32) (x0 : Int32) (s : St) : Option (Unit × St) := (gd (inb (((4 : Int32) * a1) + v2) 24) (gd (inb (((4 : Int32) * a1) + v2) 24) (gd (inb v2 4) (gd (inb a1 6) (gd (inb v2 4) (gd (inb (((100 : Int32) * a1) + (s 60 0 10)) 600) (gd (inb a1 6) (gd (inb a1 6) (gd (inb v2 4) (bd (F_X11_earnCoin g a1 (((s 70 0 a1.toNatClampNeg) * (s 60 0 8)) - (((s 70 0 a1.toNatClampNeg) - x0) * (s 77 0 v2.toNatClampNeg))) (up (up (up s 74 0 (((4 : Int32) * a1) + v2).toNatClampNeg ((s 74 0 (((4 : Int32) * a1) + v2).toNatClampNeg) - x0)) 66 0 v2.toNatClampNeg ((s 66 0 v2.toNatClampNeg) - ((s 70 0 a1.toNatClampNeg) - x0))) 76 0 (((100 : Int32) * a1) + (s 60 0 10)).toNatClampNeg v2)) (fun r235 s235 => (some ((), s235)))))))))))))
set_option maxRecDepth 100000 in
set_option maxHeartbeats 4000000 in
theorem w_X11_work_159 {Z : ZE} {l : Launch} (hZ : OkM Z) {a1 : Int32}  {R : Unit × St}  (v2 : Int32) (x0 : Int32)  (s : St) (hF : F_X11_work_159 (zg Z) a1 v2 x0 s = some R) : AW Z l iX11_work (Pq (rU R)) 0 0 159 [(0, .ref (za Z 60 0)), (1, .int a1), (2, .int v2)] [.int x0] s := by
  unfold F_X11_work_159 at hF
  refine a_istore_n [(3, .int x0), (0, .ref (za Z 60 0)), (1, .int a1), (2, .int v2)] dX11_work_159 rfl (by decide) rfl ?_
  refine a_aload_n dX11_work_160 1 rfl rfl ?_
  refine a_getR hZ.1 (hZ.2 60 0 (by decide) (by decide) Nat.one_pos) fl_X11_60 rfl 0 rfl dX11_work_161 ?_
  refine a_iconst (v := (4 : Int32)) dX11_work_164 (by decide) ?_
  refine a_iload_n dX11_work_165 2 rfl rfl ?_
  refine a_imul dX11_work_166 ?_
  refine a_iload_n dX11_work_167 3 rfl rfl ?_
  refine a_iadd dX11_work_168 ?_
  refine a_dup2 dX11_work_169 rfl rfl ?_
  obtain ⟨b1, hF⟩ := gd_some hF
  refine a_iald hZ.1 (s 74 0 (((4 : Int32) * a1) + v2).toNatClampNeg) (hZ.2 74 0 (by decide) (by decide) Nat.one_pos) rfl rfl (inb_vp b1) rfl dX11_work_170 ?_
  refine a_iload_n dX11_work_171 0 rfl rfl ?_
  refine a_isub dX11_work_172 ?_
  obtain ⟨b2, hF⟩ := gd_some hF
  refine a_iast hZ.1 (hZ.2 74 0 (by decide) (by decide) Nat.one_pos) rfl rfl (inb_vp b2) dX11_work_173 ?_
  refine a_aload_n dX11_work_174 1 rfl rfl ?_
  refine a_getR hZ.1 (hZ.2 60 0 (by decide) (by decide) Nat.one_pos) fl_X11_33 rfl 0 rfl dX11_work_175 ?_
  refine a_iload_n dX11_work_178 3 rfl rfl ?_
  refine a_dup2 dX11_work_179 rfl rfl ?_
  obtain ⟨b3, hF⟩ := gd_some hF
  refine a_iald hZ.1 (s 66 0 v2.toNatClampNeg) (hZ.2 66 0 (by decide) (by decide) Nat.one_pos) rfl rfl (inb_vp b3) rfl dX11_work_180 ?_
  refine a_aload_n dX11_work_181 1 rfl rfl ?_
  refine a_getR hZ.1 (hZ.2 60 0 (by decide) (by decide) Nat.one_pos) fl_X11_48 rfl 0 rfl dX11_work_182 ?_
  refine a_iload_n dX11_work_185 2 rfl rfl ?_
  obtain ⟨b4, hF⟩ := gd_some hF
  refine a_iald hZ.1 (s 70 0 a1.toNatClampNeg) (hZ.2 70 0 (by decide) (by decide) Nat.one_pos) rfl rfl (inb_vp b4) rfl dX11_work_186 ?_
  refine a_iload_n dX11_work_187 0 rfl rfl ?_
  refine a_isub dX11_work_188 ?_
  refine a_isub dX11_work_189 ?_
  obtain ⟨b5, hF⟩ := gd_some hF
  refine a_iast hZ.1 (hZ.2 66 0 (by decide) (by decide) Nat.one_pos) rfl rfl (inb_vp b5) dX11_work_190 ?_
  refine a_aload_n dX11_work_191 1 rfl rfl ?_
  refine a_getR hZ.1 (hZ.2 60 0 (by decide) (by decide) Nat.one_pos) fl_X11_66 rfl 0 rfl dX11_work_192 ?_
  refine a_bipush (v := (100 : Int32)) dX11_work_195 (by decide) ?_
  refine a_iload_n dX11_work_197 2 rfl rfl ?_
  refine a_imul dX11_work_198 ?_
  refine a_aload_n dX11_work_199 1 rfl rfl ?_
  refine a_getI hZ.1 (s 60 0 10) (hZ.2 60 0 (by decide) (by decide) Nat.one_pos) fl_X11_188 rfl rfl dX11_work_200 ?_
  refine a_iadd dX11_work_203 ?_
  refine a_iload_n dX11_work_204 3 rfl rfl ?_
  obtain ⟨b6, hF⟩ := gd_some hF
  refine a_iast hZ.1 (hZ.2 76 0 (by decide) (by decide) Nat.one_pos) rfl rfl (inb_vp b6) dX11_work_205 ?_
  refine a_aload_n dX11_work_206 1 rfl rfl ?_
  refine a_iload_n dX11_work_207 2 rfl rfl ?_
  refine a_aload_n dX11_work_208 1 rfl rfl ?_
  refine a_getR hZ.1 (hZ.2 60 0 (by decide) (by decide) Nat.one_pos) fl_X11_48 rfl 0 rfl dX11_work_209 ?_
  refine a_iload_n dX11_work_212 2 rfl rfl ?_
  obtain ⟨b7, hF⟩ := gd_some hF
  refine a_iald hZ.1 (s 70 0 a1.toNatClampNeg) (hZ.2 70 0 (by decide) (by decide) Nat.one_pos) rfl rfl (inb_vp b7) rfl dX11_work_213 ?_
  refine a_aload_n dX11_work_214 1 rfl rfl ?_
  refine a_getI hZ.1 (s 60 0 8) (hZ.2 60 0 (by decide) (by decide) Nat.one_pos) fl_X11_36 rfl rfl dX11_work_215 ?_
  refine a_imul dX11_work_218 ?_
  refine a_aload_n dX11_work_219 1 rfl rfl ?_
  refine a_getR hZ.1 (hZ.2 60 0 (by decide) (by decide) Nat.one_pos) fl_X11_48 rfl 0 rfl dX11_work_220 ?_
  refine a_iload_n dX11_work_223 2 rfl rfl ?_
  obtain ⟨b8, hF⟩ := gd_some hF
  refine a_iald hZ.1 (s 70 0 a1.toNatClampNeg) (hZ.2 70 0 (by decide) (by decide) Nat.one_pos) rfl rfl (inb_vp b8) rfl dX11_work_224 ?_
  refine a_iload_n dX11_work_225 0 rfl rfl ?_
  refine a_isub dX11_work_226 ?_
  refine a_aload_n dX11_work_227 1 rfl rfl ?_
  refine a_getR hZ.1 (hZ.2 60 0 (by decide) (by decide) Nat.one_pos) fl_X11_70 rfl 0 rfl dX11_work_228 ?_
  refine a_iload_n dX11_work_231 3 rfl rfl ?_
  obtain ⟨b9, hF⟩ := gd_some hF
  refine a_iald hZ.1 (s 77 0 v2.toNatClampNeg) (hZ.2 77 0 (by decide) (by decide) Nat.one_pos) rfl rfl (inb_vp b9) rfl dX11_work_232 ?_
  refine a_imul dX11_work_233 ?_
  refine a_isub dX11_work_234 ?_
  obtain ⟨r235, s235, e235, hF⟩ := bd_some hF
  refine a_invV hZ.1 (As := [.int a1, .int (((s 70 0 a1.toNatClampNeg) * (s 60 0 8)) - (((s 70 0 a1.toNatClampNeg) - x0) * (s 77 0 v2.toNatClampNeg)))]) (rest := []) (hZ.2 60 0 (by decide) (by decide) Nat.one_pos) lk_X11_191 ⟨⟨by decide, by decide⟩, by decide, by decide⟩ rfl (Nat.le_of_ble_eq_true rfl) dX11_work_235 (m_X11_earnCoin hZ  e235) ?_
  show AW Z l iX11_work (Pq (rU R)) 0 0 238 [(3, .int x0), (0, .ref (za Z 60 0)), (1, .int a1), (2, .int v2)] [] s235
  refine a_goto 330 dX11_work_238 (by decide) ?_
  replace hF := Option.some.inj hF
  subst hF
  exact a_vret rfl (Nat.zero_le _) (Nat.zero_le _) dX11_work_330 ⟨rfl, rfl⟩
def F_X11_work_95 (g : Nat × Nat) (a1 : Int32)  (v2 : Int32) (s : St) : Option (Unit × St) := (if v2 = (-1000000) then (F_X11_work_241 g a1   s) else (gd (inb v2 4) (gd (inb a1 6) (if ((s 60 0 8) - (s 77 0 v2.toNatClampNeg)) < (s 72 0 a1.toNatClampNeg) then (F_X11_work_241 g a1   s) else (gd (inb (((4 : Int32) * a1) + v2) 24) (gd (inb a1 6) (if (s 70 0 a1.toNatClampNeg) ≤ (s 74 0 (((4 : Int32) * a1) + v2).toNatClampNeg) then (gd (inb a1 6) (F_X11_work_159 g a1  v2 (s 70 0 a1.toNatClampNeg) s)) else (gd (inb (((4 : Int32) * a1) + v2) 24) (F_X11_work_159 g a1  v2 (s 74 0 (((4 : Int32) * a1) + v2).toNatClampNeg) s)))))))))
set_option maxRecDepth 100000 in
set_option maxHeartbeats 4000000 in
theorem w_X11_work_95 {Z : ZE} {l : Launch} (hZ : OkM Z) {a1 : Int32}  {R : Unit × St}  (v2 : Int32)  (s : St) (hF : F_X11_work_95 (zg Z) a1 v2 s = some R) : AW Z l iX11_work (Pq (rU R)) 0 0 95 [(0, .ref (za Z 60 0)), (1, .int a1), (2, .int v2)] [] s := by
  unfold F_X11_work_95 at hF
  refine a_iload_n dX11_work_95 2 rfl rfl ?_
  refine a_ldc (v := (-1000000)) kw_951 dX11_work_96 ?_
  refine a_icmp_eq 241 dX11_work_98 (by decide) (fun c1 => ?_) (fun c1 => ?_)
  · replace hF := (if_pos c1).symm.trans hF
    refine a_loc [(0, .ref (za Z 60 0)), (1, .int a1)] [0, 1] rfl ?_
    exact w_X11_work_241 (l := l) hZ     _ hF
  · replace hF := (if_neg c1).symm.trans hF
    refine a_aload_n dX11_work_101 0 rfl rfl ?_
    refine a_getI hZ.1 (s 60 0 8) (hZ.2 60 0 (by decide) (by decide) Nat.one_pos) fl_X11_36 rfl rfl dX11_work_102 ?_
    refine a_aload_n dX11_work_105 0 rfl rfl ?_
    refine a_getR hZ.1 (hZ.2 60 0 (by decide) (by decide) Nat.one_pos) fl_X11_70 rfl 0 rfl dX11_work_106 ?_
    refine a_iload_n dX11_work_109 2 rfl rfl ?_
    obtain ⟨b2, hF⟩ := gd_some hF
    refine a_iald hZ.1 (s 77 0 v2.toNatClampNeg) (hZ.2 77 0 (by decide) (by decide) Nat.one_pos) rfl rfl (inb_vp b2) rfl dX11_work_110 ?_
    refine a_isub dX11_work_111 ?_
    refine a_aload_n dX11_work_112 0 rfl rfl ?_
    refine a_getR hZ.1 (hZ.2 60 0 (by decide) (by decide) Nat.one_pos) fl_X11_54 rfl 0 rfl dX11_work_113 ?_
    refine a_iload_n dX11_work_116 1 rfl rfl ?_
    obtain ⟨b3, hF⟩ := gd_some hF
    refine a_iald hZ.1 (s 72 0 a1.toNatClampNeg) (hZ.2 72 0 (by decide) (by decide) Nat.one_pos) rfl rfl (inb_vp b3) rfl dX11_work_117 ?_
    refine a_icmp_lt 241 dX11_work_118 (by decide) (fun c4 => ?_) (fun c4 => ?_)
    · replace hF := (if_pos c4).symm.trans hF
      refine a_loc [(0, .ref (za Z 60 0)), (1, .int a1)] [0, 1] rfl ?_
      exact w_X11_work_241 (l := l) hZ     _ hF
    · replace hF := (if_neg c4).symm.trans hF
      refine a_aload_n dX11_work_121 0 rfl rfl ?_
      refine a_getR hZ.1 (hZ.2 60 0 (by decide) (by decide) Nat.one_pos) fl_X11_60 rfl 0 rfl dX11_work_122 ?_
      refine a_iconst (v := (4 : Int32)) dX11_work_125 (by decide) ?_
      refine a_iload_n dX11_work_126 1 rfl rfl ?_
      refine a_imul dX11_work_127 ?_
      refine a_iload_n dX11_work_128 2 rfl rfl ?_
      refine a_iadd dX11_work_129 ?_
      obtain ⟨b5, hF⟩ := gd_some hF
      refine a_iald hZ.1 (s 74 0 (((4 : Int32) * a1) + v2).toNatClampNeg) (hZ.2 74 0 (by decide) (by decide) Nat.one_pos) rfl rfl (inb_vp b5) rfl dX11_work_130 ?_
      refine a_aload_n dX11_work_131 0 rfl rfl ?_
      refine a_getR hZ.1 (hZ.2 60 0 (by decide) (by decide) Nat.one_pos) fl_X11_48 rfl 0 rfl dX11_work_132 ?_
      refine a_iload_n dX11_work_135 1 rfl rfl ?_
      obtain ⟨b6, hF⟩ := gd_some hF
      refine a_iald hZ.1 (s 70 0 a1.toNatClampNeg) (hZ.2 70 0 (by decide) (by decide) Nat.one_pos) rfl rfl (inb_vp b6) rfl dX11_work_136 ?_
      refine a_icmp_ge 153 dX11_work_137 (by decide) (fun c7 => ?_) (fun c7 => ?_)
      · replace hF := (if_pos c7).symm.trans hF
        refine a_aload_n dX11_work_153 0 rfl rfl ?_
        refine a_getR hZ.1 (hZ.2 60 0 (by decide) (by decide) Nat.one_pos) fl_X11_48 rfl 0 rfl dX11_work_154 ?_
        refine a_iload_n dX11_work_157 1 rfl rfl ?_
        obtain ⟨b8, hF⟩ := gd_some hF
        refine a_iald hZ.1 (s 70 0 a1.toNatClampNeg) (hZ.2 70 0 (by decide) (by decide) Nat.one_pos) rfl rfl (inb_vp b8) rfl dX11_work_158 ?_
        exact w_X11_work_159 (l := l) hZ   v2 (s 70 0 a1.toNatClampNeg)  _ hF
      · replace hF := (if_neg c7).symm.trans hF
        refine a_aload_n dX11_work_140 0 rfl rfl ?_
        refine a_getR hZ.1 (hZ.2 60 0 (by decide) (by decide) Nat.one_pos) fl_X11_60 rfl 0 rfl dX11_work_141 ?_
        refine a_iconst (v := (4 : Int32)) dX11_work_144 (by decide) ?_
        refine a_iload_n dX11_work_145 1 rfl rfl ?_
        refine a_imul dX11_work_146 ?_
        refine a_iload_n dX11_work_147 2 rfl rfl ?_
        refine a_iadd dX11_work_148 ?_
        obtain ⟨b9, hF⟩ := gd_some hF
        refine a_iald hZ.1 (s 74 0 (((4 : Int32) * a1) + v2).toNatClampNeg) (hZ.2 74 0 (by decide) (by decide) Nat.one_pos) rfl rfl (inb_vp b9) rfl dX11_work_149 ?_
        refine a_goto 159 dX11_work_150 (by decide) ?_
        exact w_X11_work_159 (l := l) hZ   v2 (s 74 0 (((4 : Int32) * a1) + v2).toNatClampNeg)  _ hF
def F_X11_work_88 (g : Nat × Nat) (a1 : Int32) (h5_ : Int32 → Int32 → St → Option (Unit × St)) (h95_ : Int32 → St → Option (Unit × St)) (v3 : Int32) (x0 : Int32) (s : St) : Option (Unit × St) := (h5_ x0 (v3 + 1) s)
set_option maxRecDepth 100000 in
set_option maxHeartbeats 4000000 in
theorem w_X11_work_88 {Z : ZE} {l : Launch} (hZ : OkM Z) {a1 : Int32}  {R : Unit × St} (h5_ : Int32 → Int32 → St → Option (Unit × St)) (w5_ : ∀ (v2 : Int32) (v3 : Int32)  (s : St), h5_ v2 v3 s = some R → AW Z l iX11_work (Pq (rU R)) 0 0 5 [(0, .ref (za Z 60 0)), (1, .int a1), (2, .int v2), (3, .int v3)] [] s) (h95_ : Int32 → St → Option (Unit × St)) (w95_ : ∀ (v2 : Int32)  (s : St), h95_ v2 s = some R → AW Z l iX11_work (Pq (rU R)) 0 0 95 [(0, .ref (za Z 60 0)), (1, .int a1), (2, .int v2)] [] s) (v3 : Int32) (x0 : Int32)  (s : St) (hF : F_X11_work_88 (zg Z) a1 h5_ h95_ v3 x0 s = some R) : AW Z l iX11_work (Pq (rU R)) 0 0 88 [(0, .ref (za Z 60 0)), (1, .int a1), (3, .int v3)] [.int x0] s := by
  unfold F_X11_work_88 at hF
  refine a_istore_n [(2, .int x0), (0, .ref (za Z 60 0)), (1, .int a1), (3, .int v3)] dX11_work_88 rfl (by decide) rfl ?_
  refine a_iinc [(3, .int (v3 + 1)), (2, .int x0), (0, .ref (za Z 60 0)), (1, .int a1)] dX11_work_89 3 rfl rfl (by decide) rfl ?_
  refine a_goto 5 dX11_work_92 (by decide) ?_
  refine a_loc [(0, .ref (za Z 60 0)), (1, .int a1), (2, .int x0), (3, .int (v3 + 1))] [2, 3, 1, 0] rfl ?_
  exact w5_ x0 (v3 + 1)  _ hF
def F_X11_work_87 (g : Nat × Nat) (a1 : Int32) (h5_ : Int32 → Int32 → St → Option (Unit × St)) (h95_ : Int32 → St → Option (Unit × St)) (v2 : Int32) (v3 : Int32) (s : St) : Option (Unit × St) := (F_X11_work_88 g a1 h5_ h95_ v3 v2 s)
set_option maxRecDepth 100000 in
set_option maxHeartbeats 4000000 in
theorem w_X11_work_87 {Z : ZE} {l : Launch} (hZ : OkM Z) {a1 : Int32}  {R : Unit × St} (h5_ : Int32 → Int32 → St → Option (Unit × St)) (w5_ : ∀ (v2 : Int32) (v3 : Int32)  (s : St), h5_ v2 v3 s = some R → AW Z l iX11_work (Pq (rU R)) 0 0 5 [(0, .ref (za Z 60 0)), (1, .int a1), (2, .int v2), (3, .int v3)] [] s) (h95_ : Int32 → St → Option (Unit × St)) (w95_ : ∀ (v2 : Int32)  (s : St), h95_ v2 s = some R → AW Z l iX11_work (Pq (rU R)) 0 0 95 [(0, .ref (za Z 60 0)), (1, .int a1), (2, .int v2)] [] s) (v2 : Int32) (v3 : Int32)  (s : St) (hF : F_X11_work_87 (zg Z) a1 h5_ h95_ v2 v3 s = some R) : AW Z l iX11_work (Pq (rU R)) 0 0 87 [(0, .ref (za Z 60 0)), (1, .int a1), (2, .int v2), (3, .int v3)] [] s := by
  unfold F_X11_work_87 at hF
  refine a_iload_n dX11_work_87 2 rfl rfl ?_
  refine a_loc [(0, .ref (za Z 60 0)), (1, .int a1), (3, .int v3)] [0, 1, 3] rfl ?_
  exact w_X11_work_88 (l := l) hZ  h5_ w5_ h95_ w95_ v3 v2  _ hF
def F_X11_work_83 (g : Nat × Nat) (a1 : Int32) (h5_ : Int32 → Int32 → St → Option (Unit × St)) (h95_ : Int32 → St → Option (Unit × St)) (v3 : Int32) (s : St) : Option (Unit × St) := (F_X11_work_88 g a1 h5_ h95_ v3 v3 s)
set_option maxRecDepth 100000 in
set_option maxHeartbeats 4000000 in
theorem w_X11_work_83 {Z : ZE} {l : Launch} (hZ : OkM Z) {a1 : Int32}  {R : Unit × St} (h5_ : Int32 → Int32 → St → Option (Unit × St)) (w5_ : ∀ (v2 : Int32) (v3 : Int32)  (s : St), h5_ v2 v3 s = some R → AW Z l iX11_work (Pq (rU R)) 0 0 5 [(0, .ref (za Z 60 0)), (1, .int a1), (2, .int v2), (3, .int v3)] [] s) (h95_ : Int32 → St → Option (Unit × St)) (w95_ : ∀ (v2 : Int32)  (s : St), h95_ v2 s = some R → AW Z l iX11_work (Pq (rU R)) 0 0 95 [(0, .ref (za Z 60 0)), (1, .int a1), (2, .int v2)] [] s) (v3 : Int32)  (s : St) (hF : F_X11_work_83 (zg Z) a1 h5_ h95_ v3 s = some R) : AW Z l iX11_work (Pq (rU R)) 0 0 83 [(0, .ref (za Z 60 0)), (1, .int a1), (3, .int v3)] [] s := by
  unfold F_X11_work_83 at hF
  refine a_iload_n dX11_work_83 2 rfl rfl ?_
  refine a_goto 88 dX11_work_84 (by decide) ?_
  exact w_X11_work_88 (l := l) hZ  h5_ w5_ h95_ w95_ v3 v3  _ hF
def F_X11_work_55 (g : Nat × Nat) (a1 : Int32) (h5_ : Int32 → Int32 → St → Option (Unit × St)) (h95_ : Int32 → St → Option (Unit × St)) (v2 : Int32) (v3 : Int32) (x0 : Int32) (s : St) : Option (Unit × St) := (if x0 = 0 then (F_X11_work_87 g a1 h5_ h95_ v2 v3 s) else (if v2 = (-1000000) then (F_X11_work_83 g a1 h5_ h95_ v3 s) else (gd (inb v3 4) (gd (inb v2 4) (if (s 77 0 v2.toNatClampNeg) ≤ (s 77 0 v3.toNatClampNeg) then (F_X11_work_87 g a1 h5_ h95_ v2 v3 s) else (F_X11_work_83 g a1 h5_ h95_ v3 s))))))
set_option maxRecDepth 100000 in
set_option maxHeartbeats 4000000 in
theorem w_X11_work_55 {Z : ZE} {l : Launch} (hZ : OkM Z) {a1 : Int32}  {R : Unit × St} (h5_ : Int32 → Int32 → St → Option (Unit × St)) (w5_ : ∀ (v2 : Int32) (v3 : Int32)  (s : St), h5_ v2 v3 s = some R → AW Z l iX11_work (Pq (rU R)) 0 0 5 [(0, .ref (za Z 60 0)), (1, .int a1), (2, .int v2), (3, .int v3)] [] s) (h95_ : Int32 → St → Option (Unit × St)) (w95_ : ∀ (v2 : Int32)  (s : St), h95_ v2 s = some R → AW Z l iX11_work (Pq (rU R)) 0 0 95 [(0, .ref (za Z 60 0)), (1, .int a1), (2, .int v2)] [] s) (v2 : Int32) (v3 : Int32) (x0 : Int32)  (s : St) (hF : F_X11_work_55 (zg Z) a1 h5_ h95_ v2 v3 x0 s = some R) : AW Z l iX11_work (Pq (rU R)) 0 0 55 [(0, .ref (za Z 60 0)), (1, .int a1), (2, .int v2), (3, .int v3)] [.int x0] s := by
  unfold F_X11_work_55 at hF
  refine a_istore [(4, .int x0), (0, .ref (za Z 60 0)), (1, .int a1), (2, .int v2), (3, .int v3)] dX11_work_55 (by decide) rfl ?_
  refine a_iload dX11_work_57 0 rfl ?_
  refine a_if_eq 87 dX11_work_59 (by decide) (fun c1 => ?_) (fun c1 => ?_)
  · replace hF := (if_pos c1).symm.trans hF
    refine a_loc [(0, .ref (za Z 60 0)), (1, .int a1), (2, .int v2), (3, .int v3)] [1, 2, 3, 4] rfl ?_
    exact w_X11_work_87 (l := l) hZ  h5_ w5_ h95_ w95_ v2 v3  _ hF
  · replace hF := (if_neg c1).symm.trans hF
    refine a_iload_n dX11_work_62 3 rfl rfl ?_
    refine a_ldc (v := (-1000000)) kw_951 dX11_work_63 ?_
    refine a_icmp_eq 83 dX11_work_65 (by decide) (fun c2 => ?_) (fun c2 => ?_)
    · replace hF := (if_pos c2).symm.trans hF
      refine a_loc [(0, .ref (za Z 60 0)), (1, .int a1), (3, .int v3)] [1, 2, 4] rfl ?_
      exact w_X11_work_83 (l := l) hZ  h5_ w5_ h95_ w95_ v3  _ hF
    · replace hF := (if_neg c2).symm.trans hF
      refine a_aload_n dX11_work_68 1 rfl rfl ?_
      refine a_getR hZ.1 (hZ.2 60 0 (by decide) (by decide) Nat.one_pos) fl_X11_70 rfl 0 rfl dX11_work_69 ?_
      refine a_iload_n dX11_work_72 4 rfl rfl ?_
      obtain ⟨b3, hF⟩ := gd_some hF
      refine a_iald hZ.1 (s 77 0 v3.toNatClampNeg) (hZ.2 77 0 (by decide) (by decide) Nat.one_pos) rfl rfl (inb_vp b3) rfl dX11_work_73 ?_
      refine a_aload_n dX11_work_74 1 rfl rfl ?_
      refine a_getR hZ.1 (hZ.2 60 0 (by decide) (by decide) Nat.one_pos) fl_X11_70 rfl 0 rfl dX11_work_75 ?_
      refine a_iload_n dX11_work_78 3 rfl rfl ?_
      obtain ⟨b4, hF⟩ := gd_some hF
      refine a_iald hZ.1 (s 77 0 v2.toNatClampNeg) (hZ.2 77 0 (by decide) (by decide) Nat.one_pos) rfl rfl (inb_vp b4) rfl dX11_work_79 ?_
      refine a_icmp_ge 87 dX11_work_80 (by decide) (fun c5 => ?_) (fun c5 => ?_)
      · replace hF := (if_pos c5).symm.trans hF
        refine a_loc [(0, .ref (za Z 60 0)), (1, .int a1), (2, .int v2), (3, .int v3)] [1, 2, 3, 4] rfl ?_
        exact w_X11_work_87 (l := l) hZ  h5_ w5_ h95_ w95_ v2 v3  _ hF
      · replace hF := (if_neg c5).symm.trans hF
        refine a_loc [(0, .ref (za Z 60 0)), (1, .int a1), (3, .int v3)] [1, 2, 4] rfl ?_
        exact w_X11_work_83 (l := l) hZ  h5_ w5_ h95_ w95_ v3  _ hF
def F_X11_work_54 (g : Nat × Nat) (a1 : Int32) (h5_ : Int32 → Int32 → St → Option (Unit × St)) (h95_ : Int32 → St → Option (Unit × St)) (v2 : Int32) (v3 : Int32) (s : St) : Option (Unit × St) := (F_X11_work_55 g a1 h5_ h95_ v2 v3 (0 : Int32) s)
set_option maxRecDepth 100000 in
set_option maxHeartbeats 4000000 in
theorem w_X11_work_54 {Z : ZE} {l : Launch} (hZ : OkM Z) {a1 : Int32}  {R : Unit × St} (h5_ : Int32 → Int32 → St → Option (Unit × St)) (w5_ : ∀ (v2 : Int32) (v3 : Int32)  (s : St), h5_ v2 v3 s = some R → AW Z l iX11_work (Pq (rU R)) 0 0 5 [(0, .ref (za Z 60 0)), (1, .int a1), (2, .int v2), (3, .int v3)] [] s) (h95_ : Int32 → St → Option (Unit × St)) (w95_ : ∀ (v2 : Int32)  (s : St), h95_ v2 s = some R → AW Z l iX11_work (Pq (rU R)) 0 0 95 [(0, .ref (za Z 60 0)), (1, .int a1), (2, .int v2)] [] s) (v2 : Int32) (v3 : Int32)  (s : St) (hF : F_X11_work_54 (zg Z) a1 h5_ h95_ v2 v3 s = some R) : AW Z l iX11_work (Pq (rU R)) 0 0 54 [(0, .ref (za Z 60 0)), (1, .int a1), (2, .int v2), (3, .int v3)] [] s := by
  unfold F_X11_work_54 at hF
  refine a_iconst (v := (0 : Int32)) dX11_work_54 (by decide) ?_
  exact w_X11_work_55 (l := l) hZ  h5_ w5_ h95_ w95_ v2 v3 (0 : Int32)  _ hF
def F_X11_work_5 (g : Nat × Nat) (a1 : Int32) (h95_ : Int32 → St → Option (Unit × St)) : Nat → Int32 → Int32 → St → Option (Unit × St)
  | 0, _, _, _ => none
  | n_ + 1, v2, v3, s => (if (4 : Int32) ≤ v3 then (h95_ v2 s) else (gd (inb a1 6) (if (((s 71 0 a1.toNatClampNeg) >>> (v3 &&& 31)) &&& (1 : Int32)) = (1 : Int32) then (gd (inb (((4 : Int32) * a1) + v3) 24) (gd (inb v3 4) (gd (inb a1 6) (if ((s 74 0 (((4 : Int32) * a1) + v3).toNatClampNeg) + (s 66 0 v3.toNatClampNeg)) < (s 70 0 a1.toNatClampNeg) then (F_X11_work_54 g a1 (F_X11_work_5 g a1 h95_ n_) h95_ v2 v3 s) else (F_X11_work_55 g a1 (F_X11_work_5 g a1 h95_ n_) h95_ v2 v3 (1 : Int32) s))))) else (F_X11_work_54 g a1 (F_X11_work_5 g a1 h95_ n_) h95_ v2 v3 s))))
set_option maxRecDepth 100000 in
set_option maxHeartbeats 4000000 in
theorem w_X11_work_5 {Z : ZE} {l : Launch} (hZ : OkM Z) {a1 : Int32}  {R : Unit × St} (h95_ : Int32 → St → Option (Unit × St)) (w95_ : ∀ (v2 : Int32)  (s : St), h95_ v2 s = some R → AW Z l iX11_work (Pq (rU R)) 0 0 95 [(0, .ref (za Z 60 0)), (1, .int a1), (2, .int v2)] [] s) : ∀ (n_ : Nat) (v2 : Int32) (v3 : Int32)  (s : St), F_X11_work_5 (zg Z) a1 h95_ n_ v2 v3 s = some R → AW Z l iX11_work (Pq (rU R)) 0 0 5 [(0, .ref (za Z 60 0)), (1, .int a1), (2, .int v2), (3, .int v3)] [] s := by
  intro n_
  induction n_ with
  | zero =>
    intro v2 v3 s hF
    exact absurd hF (by rw [F_X11_work_5]; exact fun q => by cases q)
  | succ n_ w5_ =>
    intro v2 v3 s hF
    rw [F_X11_work_5] at hF
    refine a_iload_n dX11_work_5 3 rfl rfl ?_
    refine a_iconst (v := (4 : Int32)) dX11_work_6 (by decide) ?_
    refine a_icmp_ge 95 dX11_work_7 (by decide) (fun c1 => ?_) (fun c1 => ?_)
    · replace hF := (if_pos c1).symm.trans hF
      refine a_loc [(0, .ref (za Z 60 0)), (1, .int a1), (2, .int v2)] [0, 1, 2] rfl ?_
      exact w95_ v2  _ hF
    · replace hF := (if_neg c1).symm.trans hF
      refine a_aload_n dX11_work_10 0 rfl rfl ?_
      refine a_getR hZ.1 (hZ.2 60 0 (by decide) (by decide) Nat.one_pos) fl_X11_51 rfl 0 rfl dX11_work_11 ?_
      refine a_iload_n dX11_work_14 1 rfl rfl ?_
      obtain ⟨b2, hF⟩ := gd_some hF
      refine a_iald hZ.1 (s 71 0 a1.toNatClampNeg) (hZ.2 71 0 (by decide) (by decide) Nat.one_pos) rfl rfl (inb_vp b2) rfl dX11_work_15 ?_
      refine a_iload_n dX11_work_16 3 rfl rfl ?_
      refine a_ishr dX11_work_17 ?_
      refine a_iconst (v := (1 : Int32)) dX11_work_18 (by decide) ?_
      refine a_iand dX11_work_19 ?_
      refine a_iconst (v := (1 : Int32)) dX11_work_20 (by decide) ?_
      refine a_icmp_ne 54 dX11_work_21 (by decide) (fun c3 => ?_) (fun c3 => ?_)
      · replace hF := (if_neg c3).symm.trans hF
        exact w_X11_work_54 (l := l) hZ  (F_X11_work_5 (zg Z) a1 h95_ n_) w5_ h95_ w95_ v2 v3  _ hF
      · replace hF := (if_pos c3).symm.trans hF
        refine a_aload_n dX11_work_24 0 rfl rfl ?_
        refine a_getR hZ.1 (hZ.2 60 0 (by decide) (by decide) Nat.one_pos) fl_X11_60 rfl 0 rfl dX11_work_25 ?_
        refine a_iconst (v := (4 : Int32)) dX11_work_28 (by decide) ?_
        refine a_iload_n dX11_work_29 1 rfl rfl ?_
        refine a_imul dX11_work_30 ?_
        refine a_iload_n dX11_work_31 3 rfl rfl ?_
        refine a_iadd dX11_work_32 ?_
        obtain ⟨b4, hF⟩ := gd_some hF
        refine a_iald hZ.1 (s 74 0 (((4 : Int32) * a1) + v3).toNatClampNeg) (hZ.2 74 0 (by decide) (by decide) Nat.one_pos) rfl rfl (inb_vp b4) rfl dX11_work_33 ?_
        refine a_aload_n dX11_work_34 0 rfl rfl ?_
        refine a_getR hZ.1 (hZ.2 60 0 (by decide) (by decide) Nat.one_pos) fl_X11_33 rfl 0 rfl dX11_work_35 ?_
        refine a_iload_n dX11_work_38 3 rfl rfl ?_
        obtain ⟨b5, hF⟩ := gd_some hF
        refine a_iald hZ.1 (s 66 0 v3.toNatClampNeg) (hZ.2 66 0 (by decide) (by decide) Nat.one_pos) rfl rfl (inb_vp b5) rfl dX11_work_39 ?_
        refine a_iadd dX11_work_40 ?_
        refine a_aload_n dX11_work_41 0 rfl rfl ?_
        refine a_getR hZ.1 (hZ.2 60 0 (by decide) (by decide) Nat.one_pos) fl_X11_48 rfl 0 rfl dX11_work_42 ?_
        refine a_iload_n dX11_work_45 1 rfl rfl ?_
        obtain ⟨b6, hF⟩ := gd_some hF
        refine a_iald hZ.1 (s 70 0 a1.toNatClampNeg) (hZ.2 70 0 (by decide) (by decide) Nat.one_pos) rfl rfl (inb_vp b6) rfl dX11_work_46 ?_
        refine a_icmp_lt 54 dX11_work_47 (by decide) (fun c7 => ?_) (fun c7 => ?_)
        · replace hF := (if_pos c7).symm.trans hF
          exact w_X11_work_54 (l := l) hZ  (F_X11_work_5 (zg Z) a1 h95_ n_) w5_ h95_ w95_ v2 v3  _ hF
        · replace hF := (if_neg c7).symm.trans hF
          refine a_iconst (v := (1 : Int32)) dX11_work_50 (by decide) ?_
          refine a_goto 55 dX11_work_51 (by decide) ?_
          exact w_X11_work_55 (l := l) hZ  (F_X11_work_5 (zg Z) a1 h95_ n_) w5_ h95_ w95_ v2 v3 (1 : Int32)  _ hF
def F_X11_work (g : Nat × Nat) (a1 : Int32)   (s : St) : Option (Unit × St) := ((F_X11_work_5 g a1 (F_X11_work_95 g a1 ) fu) (-1000000) (0 : Int32) s)
set_option maxRecDepth 100000 in
set_option maxHeartbeats 4000000 in
theorem w_X11_work {Z : ZE} {l : Launch} (hZ : OkM Z) {a1 : Int32}  {R : Unit × St}    (s : St) (hF : F_X11_work (zg Z) a1  s = some R) : AW Z l iX11_work (Pq (rU R)) 0 0 0 [(0, .ref (za Z 60 0)), (1, .int a1)] [] s := by
  unfold F_X11_work at hF
  refine a_ldc (v := (-1000000)) kw_951 dX11_work_0 ?_
  refine a_istore_n [(2, .int (-1000000)), (0, .ref (za Z 60 0)), (1, .int a1)] dX11_work_2 rfl (by decide) rfl ?_
  refine a_iconst (v := (0 : Int32)) dX11_work_3 (by decide) ?_
  refine a_istore_n [(3, .int (0 : Int32)), (2, .int (-1000000)), (0, .ref (za Z 60 0)), (1, .int a1)] dX11_work_4 rfl (by decide) rfl ?_
  refine a_loc [(0, .ref (za Z 60 0)), (1, .int a1), (2, .int (-1000000)), (3, .int (0 : Int32))] [2, 3, 1, 0] rfl ?_
  exact w_X11_work_5 (l := l) hZ  (F_X11_work_95 (zg Z) a1 ) (w_X11_work_95 (l := l) hZ  ) fu (-1000000) (0 : Int32)  _ hF
theorem m_X11_work {Z : ZE} {l : Launch} (hZ : OkM Z) {a1 : Int32}  {s : St} {R : Unit × St} (hF : F_X11_work (zg Z) a1 s = some R) : Sp Z l yX11_work iX11_work [.ref (za Z 60 0), .int a1] s (rU R) :=
  Sp.of (by decide) rfl (Nat.le_of_ble_eq_true rfl) (w_X11_work hZ  s hF)
-- X11_stepOnce
def F_X11_stepOnce_119 (g : Nat × Nat)    (s : St) : Option (Unit × St) := (some ((), (up s 60 0 10 ((s 60 0 10) + (1 : Int32)))))
set_option maxRecDepth 100000 in
set_option maxHeartbeats 4000000 in
theorem w_X11_stepOnce_119 {Z : ZE} {l : Launch} (hZ : OkM Z)   {R : Unit × St}    (s : St) (hF : F_X11_stepOnce_119 (zg Z)   s = some R) : AW Z l iX11_stepOnce (Pq (rU R)) 0 0 119 [(0, .ref (za Z 60 0))] [] s := by
  unfold F_X11_stepOnce_119 at hF
  refine a_aload_n dX11_stepOnce_119 0 rfl rfl ?_
  refine a_dup dX11_stepOnce_120 rfl ?_
  refine a_getI hZ.1 (s 60 0 10) (hZ.2 60 0 (by decide) (by decide) Nat.one_pos) fl_X11_188 rfl rfl dX11_stepOnce_121 ?_
  refine a_iconst (v := (1 : Int32)) dX11_stepOnce_124 (by decide) ?_
  refine a_iadd dX11_stepOnce_125 ?_
  refine a_put hZ.1 (hZ.2 60 0 (by decide) (by decide) Nat.one_pos) fl_X11_188 rfl rfl rfl dX11_stepOnce_126 ?_
  replace hF := Option.some.inj hF
  subst hF
  exact a_vret rfl (Nat.zero_le _) (Nat.zero_le _) dX11_stepOnce_129 ⟨rfl, rfl⟩
def F_X11_stepOnce_100 (g : Nat × Nat)  (h119_ : St → Option (Unit × St)) : Nat → Int32 → St → Option (Unit × St)
  | 0, _, _ => none
  | n_ + 1, v1, s => (if (s 60 0 42) ≤ v1 then (h119_  s) else (bd (F_X11_live g v1 s) (fun r110 s110 => (F_X11_stepOnce_100 g  h119_ n_ (v1 + 1) s110))))
set_option maxRecDepth 100000 in
set_option maxHeartbeats 4000000 in
theorem w_X11_stepOnce_100 {Z : ZE} {l : Launch} (hZ : OkM Z)   {R : Unit × St} (h119_ : St → Option (Unit × St)) (w119_ : ∀   (s : St), h119_  s = some R → AW Z l iX11_stepOnce (Pq (rU R)) 0 0 119 [(0, .ref (za Z 60 0))] [] s) : ∀ (n_ : Nat) (v1 : Int32)  (s : St), F_X11_stepOnce_100 (zg Z)  h119_ n_ v1 s = some R → AW Z l iX11_stepOnce (Pq (rU R)) 0 0 100 [(0, .ref (za Z 60 0)), (1, .int v1)] [] s := by
  intro n_
  induction n_ with
  | zero =>
    intro v1 s hF
    exact absurd hF (by rw [F_X11_stepOnce_100]; exact fun q => by cases q)
  | succ n_ w100_ =>
    intro v1 s hF
    rw [F_X11_stepOnce_100] at hF
    refine a_iload_n dX11_stepOnce_100 1 rfl rfl ?_
    refine a_aload_n dX11_stepOnce_101 0 rfl rfl ?_
    refine a_getI hZ.1 (s 60 0 42) (hZ.2 60 0 (by decide) (by decide) Nat.one_pos) fl_X11_202 rfl rfl dX11_stepOnce_102 ?_
    refine a_icmp_ge 119 dX11_stepOnce_105 (by decide) (fun c1 => ?_) (fun c1 => ?_)
    · replace hF := (if_pos c1).symm.trans hF
      refine a_loc [(0, .ref (za Z 60 0))] [0] rfl ?_
      exact w119_   _ hF
    · replace hF := (if_neg c1).symm.trans hF
      refine a_aload_n dX11_stepOnce_108 0 rfl rfl ?_
      refine a_iload_n dX11_stepOnce_109 1 rfl rfl ?_
      obtain ⟨r110, s110, e110, hF⟩ := bd_some hF
      refine a_invV hZ.1 (As := [.int v1]) (rest := []) (hZ.2 60 0 (by decide) (by decide) Nat.one_pos) lk_X11_205 ⟨⟨by decide, by decide⟩, by decide, by decide⟩ rfl (Nat.le_of_ble_eq_true rfl) dX11_stepOnce_110 (m_X11_live hZ  e110) ?_
      show AW Z l iX11_stepOnce (Pq (rU R)) 0 0 113 [(0, .ref (za Z 60 0)), (1, .int v1)] [] s110
      refine a_iinc [(1, .int (v1 + 1)), (0, .ref (za Z 60 0))] dX11_stepOnce_113 1 rfl rfl (by decide) rfl ?_
      refine a_goto 100 dX11_stepOnce_116 (by decide) ?_
      refine a_loc [(0, .ref (za Z 60 0)), (1, .int (v1 + 1))] [1, 0] rfl ?_
      exact w100_ (v1 + 1)  _ hF
def F_X11_stepOnce_98 (g : Nat × Nat)    (s : St) : Option (Unit × St) := ((F_X11_stepOnce_100 g  (F_X11_stepOnce_119 g  ) fu) (0 : Int32) s)
set_option maxRecDepth 100000 in
set_option maxHeartbeats 4000000 in
theorem w_X11_stepOnce_98 {Z : ZE} {l : Launch} (hZ : OkM Z)   {R : Unit × St}    (s : St) (hF : F_X11_stepOnce_98 (zg Z)   s = some R) : AW Z l iX11_stepOnce (Pq (rU R)) 0 0 98 [(0, .ref (za Z 60 0))] [] s := by
  unfold F_X11_stepOnce_98 at hF
  refine a_iconst (v := (0 : Int32)) dX11_stepOnce_98 (by decide) ?_
  refine a_istore_n [(1, .int (0 : Int32)), (0, .ref (za Z 60 0))] dX11_stepOnce_99 rfl (by decide) rfl ?_
  refine a_loc [(0, .ref (za Z 60 0)), (1, .int (0 : Int32))] [1, 0] rfl ?_
  exact w_X11_stepOnce_100 (l := l) hZ  (F_X11_stepOnce_119 (zg Z)  ) (w_X11_stepOnce_119 (l := l) hZ  ) fu (0 : Int32)  _ hF
def F_X11_stepOnce_79 (g : Nat × Nat)  (h98_ : St → Option (Unit × St)) : Nat → Int32 → St → Option (Unit × St)
  | 0, _, _ => none
  | n_ + 1, v1, s => (if (s 60 0 15) ≤ v1 then (h98_  s) else (bd (F_X11_work g v1 s) (fun r89 s89 => (F_X11_stepOnce_79 g  h98_ n_ (v1 + 1) s89))))
set_option maxRecDepth 100000 in
set_option maxHeartbeats 4000000 in
theorem w_X11_stepOnce_79 {Z : ZE} {l : Launch} (hZ : OkM Z)   {R : Unit × St} (h98_ : St → Option (Unit × St)) (w98_ : ∀   (s : St), h98_  s = some R → AW Z l iX11_stepOnce (Pq (rU R)) 0 0 98 [(0, .ref (za Z 60 0))] [] s) : ∀ (n_ : Nat) (v1 : Int32)  (s : St), F_X11_stepOnce_79 (zg Z)  h98_ n_ v1 s = some R → AW Z l iX11_stepOnce (Pq (rU R)) 0 0 79 [(0, .ref (za Z 60 0)), (1, .int v1)] [] s := by
  intro n_
  induction n_ with
  | zero =>
    intro v1 s hF
    exact absurd hF (by rw [F_X11_stepOnce_79]; exact fun q => by cases q)
  | succ n_ w79_ =>
    intro v1 s hF
    rw [F_X11_stepOnce_79] at hF
    refine a_iload_n dX11_stepOnce_79 1 rfl rfl ?_
    refine a_aload_n dX11_stepOnce_80 0 rfl rfl ?_
    refine a_getI hZ.1 (s 60 0 15) (hZ.2 60 0 (by decide) (by decide) Nat.one_pos) fl_X11_145 rfl rfl dX11_stepOnce_81 ?_
    refine a_icmp_ge 98 dX11_stepOnce_84 (by decide) (fun c1 => ?_) (fun c1 => ?_)
    · replace hF := (if_pos c1).symm.trans hF
      refine a_loc [(0, .ref (za Z 60 0))] [0] rfl ?_
      exact w98_   _ hF
    · replace hF := (if_neg c1).symm.trans hF
      refine a_aload_n dX11_stepOnce_87 0 rfl rfl ?_
      refine a_iload_n dX11_stepOnce_88 1 rfl rfl ?_
      obtain ⟨r89, s89, e89, hF⟩ := bd_some hF
      refine a_invV hZ.1 (As := [.int v1]) (rest := []) (hZ.2 60 0 (by decide) (by decide) Nat.one_pos) lk_X11_198 ⟨⟨by decide, by decide⟩, by decide, by decide⟩ rfl (Nat.le_of_ble_eq_true rfl) dX11_stepOnce_89 (m_X11_work hZ  e89) ?_
      show AW Z l iX11_stepOnce (Pq (rU R)) 0 0 92 [(0, .ref (za Z 60 0)), (1, .int v1)] [] s89
      refine a_iinc [(1, .int (v1 + 1)), (0, .ref (za Z 60 0))] dX11_stepOnce_92 1 rfl rfl (by decide) rfl ?_
      refine a_goto 79 dX11_stepOnce_95 (by decide) ?_
      refine a_loc [(0, .ref (za Z 60 0)), (1, .int (v1 + 1))] [1, 0] rfl ?_
      exact w79_ (v1 + 1)  _ hF
def F_X11_stepOnce_77 (g : Nat × Nat)    (s : St) : Option (Unit × St) := ((F_X11_stepOnce_79 g  (F_X11_stepOnce_98 g  ) fu) (0 : Int32) s)
set_option maxRecDepth 100000 in
set_option maxHeartbeats 4000000 in
theorem w_X11_stepOnce_77 {Z : ZE} {l : Launch} (hZ : OkM Z)   {R : Unit × St}    (s : St) (hF : F_X11_stepOnce_77 (zg Z)   s = some R) : AW Z l iX11_stepOnce (Pq (rU R)) 0 0 77 [(0, .ref (za Z 60 0))] [] s := by
  unfold F_X11_stepOnce_77 at hF
  refine a_iconst (v := (0 : Int32)) dX11_stepOnce_77 (by decide) ?_
  refine a_istore_n [(1, .int (0 : Int32)), (0, .ref (za Z 60 0))] dX11_stepOnce_78 rfl (by decide) rfl ?_
  refine a_loc [(0, .ref (za Z 60 0)), (1, .int (0 : Int32))] [1, 0] rfl ?_
  exact w_X11_stepOnce_79 (l := l) hZ  (F_X11_stepOnce_98 (zg Z)  ) (w_X11_stepOnce_98 (l := l) hZ  ) fu (0 : Int32)  _ hF
def F_X11_stepOnce_55 (g : Nat × Nat)  (h77_ : St → Option (Unit × St)) : Nat → Int32 → St → Option (Unit × St)
  | 0, _, _ => none
  | n_ + 1, v1, s => (if (4 : Int32) ≤ v1 then (h77_  s) else (bd (F_X11_priceOf g v1 s) (fun r67 s67 => (gd (inb v1 4) (F_X11_stepOnce_55 g  h77_ n_ (v1 + 1) (up s67 77 0 v1.toNatClampNeg r67))))))
set_option maxRecDepth 100000 in
set_option maxHeartbeats 4000000 in
theorem w_X11_stepOnce_55 {Z : ZE} {l : Launch} (hZ : OkM Z)   {R : Unit × St} (h77_ : St → Option (Unit × St)) (w77_ : ∀   (s : St), h77_  s = some R → AW Z l iX11_stepOnce (Pq (rU R)) 0 0 77 [(0, .ref (za Z 60 0))] [] s) : ∀ (n_ : Nat) (v1 : Int32)  (s : St), F_X11_stepOnce_55 (zg Z)  h77_ n_ v1 s = some R → AW Z l iX11_stepOnce (Pq (rU R)) 0 0 55 [(0, .ref (za Z 60 0)), (1, .int v1)] [] s := by
  intro n_
  induction n_ with
  | zero =>
    intro v1 s hF
    exact absurd hF (by rw [F_X11_stepOnce_55]; exact fun q => by cases q)
  | succ n_ w55_ =>
    intro v1 s hF
    rw [F_X11_stepOnce_55] at hF
    refine a_iload_n dX11_stepOnce_55 1 rfl rfl ?_
    refine a_iconst (v := (4 : Int32)) dX11_stepOnce_56 (by decide) ?_
    refine a_icmp_ge 77 dX11_stepOnce_57 (by decide) (fun c1 => ?_) (fun c1 => ?_)
    · replace hF := (if_pos c1).symm.trans hF
      refine a_loc [(0, .ref (za Z 60 0))] [0] rfl ?_
      exact w77_   _ hF
    · replace hF := (if_neg c1).symm.trans hF
      refine a_aload_n dX11_stepOnce_60 0 rfl rfl ?_
      refine a_getR hZ.1 (hZ.2 60 0 (by decide) (by decide) Nat.one_pos) fl_X11_70 rfl 0 rfl dX11_stepOnce_61 ?_
      refine a_iload_n dX11_stepOnce_64 1 rfl rfl ?_
      refine a_aload_n dX11_stepOnce_65 0 rfl rfl ?_
      refine a_iload_n dX11_stepOnce_66 1 rfl rfl ?_
      obtain ⟨r67, s67, e67, hF⟩ := bd_some hF
      refine a_invV hZ.1 (As := [.int v1]) (rest := [.int v1, .ref (za Z 77 0)]) (hZ.2 60 0 (by decide) (by decide) Nat.one_pos) lk_X11_195 ⟨⟨by decide, by decide⟩, by decide, by decide⟩ rfl (Nat.le_of_ble_eq_true rfl) dX11_stepOnce_67 (m_X11_priceOf hZ  e67) ?_
      show AW Z l iX11_stepOnce (Pq (rU R)) 0 0 70 [(0, .ref (za Z 60 0)), (1, .int v1)] [.int r67, .int v1, .ref (za Z 77 0)] s67
      obtain ⟨b2, hF⟩ := gd_some hF
      refine a_iast hZ.1 (hZ.2 77 0 (by decide) (by decide) Nat.one_pos) rfl rfl (inb_vp b2) dX11_stepOnce_70 ?_
      refine a_iinc [(1, .int (v1 + 1)), (0, .ref (za Z 60 0))] dX11_stepOnce_71 1 rfl rfl (by decide) rfl ?_
      refine a_goto 55 dX11_stepOnce_74 (by decide) ?_
      refine a_loc [(0, .ref (za Z 60 0)), (1, .int (v1 + 1))] [1, 0] rfl ?_
      exact w55_ (v1 + 1)  _ hF
def F_X11_stepOnce_53 (g : Nat × Nat)    (s : St) : Option (Unit × St) := ((F_X11_stepOnce_55 g  (F_X11_stepOnce_77 g  ) fu) (0 : Int32) s)
set_option maxRecDepth 100000 in
set_option maxHeartbeats 4000000 in
theorem w_X11_stepOnce_53 {Z : ZE} {l : Launch} (hZ : OkM Z)   {R : Unit × St}    (s : St) (hF : F_X11_stepOnce_53 (zg Z)   s = some R) : AW Z l iX11_stepOnce (Pq (rU R)) 0 0 53 [(0, .ref (za Z 60 0))] [] s := by
  unfold F_X11_stepOnce_53 at hF
  refine a_iconst (v := (0 : Int32)) dX11_stepOnce_53 (by decide) ?_
  refine a_istore_n [(1, .int (0 : Int32)), (0, .ref (za Z 60 0))] dX11_stepOnce_54 rfl (by decide) rfl ?_
  refine a_loc [(0, .ref (za Z 60 0)), (1, .int (0 : Int32))] [1, 0] rfl ?_
  exact w_X11_stepOnce_55 (l := l) hZ  (F_X11_stepOnce_77 (zg Z)  ) (w_X11_stepOnce_77 (l := l) hZ  ) fu (0 : Int32)  _ hF
def F_X11_stepOnce_45 (g : Nat × Nat)  (h2_ : Int32 → St → Option (Unit × St)) (h53_ : St → Option (Unit × St)) (v1 : Int32) (x1 : Int32) (x2 : Int32) (x3 : Int32) (s : St) : Option (Unit × St) := (gd (inb x1 4) (h2_ (v1 + 1) (up s 66 0 x1.toNatClampNeg (x2 + x3))))
set_option maxRecDepth 100000 in
set_option maxHeartbeats 4000000 in
theorem w_X11_stepOnce_45 {Z : ZE} {l : Launch} (hZ : OkM Z)   {R : Unit × St} (h2_ : Int32 → St → Option (Unit × St)) (w2_ : ∀ (v1 : Int32)  (s : St), h2_ v1 s = some R → AW Z l iX11_stepOnce (Pq (rU R)) 0 0 2 [(0, .ref (za Z 60 0)), (1, .int v1)] [] s) (h53_ : St → Option (Unit × St)) (w53_ : ∀   (s : St), h53_  s = some R → AW Z l iX11_stepOnce (Pq (rU R)) 0 0 53 [(0, .ref (za Z 60 0))] [] s) (v1 : Int32) (x1 : Int32) (x2 : Int32) (x3 : Int32)  (s : St) (hF : F_X11_stepOnce_45 (zg Z)  h2_ h53_ v1 x1 x2 x3 s = some R) : AW Z l iX11_stepOnce (Pq (rU R)) 0 0 45 [(0, .ref (za Z 60 0)), (1, .int v1)] [.int x3, .int x2, .int x1, .ref (za Z 66 0)] s := by
  unfold F_X11_stepOnce_45 at hF
  refine a_iadd dX11_stepOnce_45 ?_
  obtain ⟨b1, hF⟩ := gd_some hF
  refine a_iast hZ.1 (hZ.2 66 0 (by decide) (by decide) Nat.one_pos) rfl rfl (inb_vp b1) dX11_stepOnce_46 ?_
  refine a_iinc [(1, .int (v1 + 1)), (0, .ref (za Z 60 0))] dX11_stepOnce_47 1 rfl rfl (by decide) rfl ?_
  refine a_goto 2 dX11_stepOnce_50 (by decide) ?_
  refine a_loc [(0, .ref (za Z 60 0)), (1, .int (v1 + 1))] [1, 0] rfl ?_
  exact w2_ (v1 + 1)  _ hF
def F_X11_stepOnce_2 (g : Nat × Nat)  (h53_ : St → Option (Unit × St)) : Nat → Int32 → St → Option (Unit × St)
  | 0, _, _ => none
  | n_ + 1, v1, s => (if (s 60 0 11) ≤ v1 then (h53_  s) else (gd (inb v1 30) (gd (inb (s 68 0 v1.toNatClampNeg) 4) (gd (inb v1 30) (if (s 67 0 v1.toNatClampNeg) = (s 60 0 10) then (gd (inb v1 30) (F_X11_stepOnce_45 g  (F_X11_stepOnce_2 g  h53_ n_) h53_ v1 (s 68 0 v1.toNatClampNeg) (s 66 0 (s 68 0 v1.toNatClampNeg).toNatClampNeg) (s 69 0 v1.toNatClampNeg) s)) else (F_X11_stepOnce_45 g  (F_X11_stepOnce_2 g  h53_ n_) h53_ v1 (s 68 0 v1.toNatClampNeg) (s 66 0 (s 68 0 v1.toNatClampNeg).toNatClampNeg) (0 : Int32) s))))))
set_option maxRecDepth 100000 in
set_option maxHeartbeats 4000000 in
theorem w_X11_stepOnce_2 {Z : ZE} {l : Launch} (hZ : OkM Z)   {R : Unit × St} (h53_ : St → Option (Unit × St)) (w53_ : ∀   (s : St), h53_  s = some R → AW Z l iX11_stepOnce (Pq (rU R)) 0 0 53 [(0, .ref (za Z 60 0))] [] s) : ∀ (n_ : Nat) (v1 : Int32)  (s : St), F_X11_stepOnce_2 (zg Z)  h53_ n_ v1 s = some R → AW Z l iX11_stepOnce (Pq (rU R)) 0 0 2 [(0, .ref (za Z 60 0)), (1, .int v1)] [] s := by
  intro n_
  induction n_ with
  | zero =>
    intro v1 s hF
    exact absurd hF (by rw [F_X11_stepOnce_2]; exact fun q => by cases q)
  | succ n_ w2_ =>
    intro v1 s hF
    rw [F_X11_stepOnce_2] at hF
    refine a_iload_n dX11_stepOnce_2 1 rfl rfl ?_
    refine a_aload_n dX11_stepOnce_3 0 rfl rfl ?_
    refine a_getI hZ.1 (s 60 0 11) (hZ.2 60 0 (by decide) (by decide) Nat.one_pos) fl_X11_169 rfl rfl dX11_stepOnce_4 ?_
    refine a_icmp_ge 53 dX11_stepOnce_7 (by decide) (fun c1 => ?_) (fun c1 => ?_)
    · replace hF := (if_pos c1).symm.trans hF
      refine a_loc [(0, .ref (za Z 60 0))] [0] rfl ?_
      exact w53_   _ hF
    · replace hF := (if_neg c1).symm.trans hF
      refine a_aload_n dX11_stepOnce_10 0 rfl rfl ?_
      refine a_getR hZ.1 (hZ.2 60 0 (by decide) (by decide) Nat.one_pos) fl_X11_33 rfl 0 rfl dX11_stepOnce_11 ?_
      refine a_aload_n dX11_stepOnce_14 0 rfl rfl ?_
      refine a_getR hZ.1 (hZ.2 60 0 (by decide) (by decide) Nat.one_pos) fl_X11_42 rfl 0 rfl dX11_stepOnce_15 ?_
      refine a_iload_n dX11_stepOnce_18 1 rfl rfl ?_
      obtain ⟨b2, hF⟩ := gd_some hF
      refine a_iald hZ.1 (s 68 0 v1.toNatClampNeg) (hZ.2 68 0 (by decide) (by decide) Nat.one_pos) rfl rfl (inb_vp b2) rfl dX11_stepOnce_19 ?_
      refine a_dup2 dX11_stepOnce_20 rfl rfl ?_
      obtain ⟨b3, hF⟩ := gd_some hF
      refine a_iald hZ.1 (s 66 0 (s 68 0 v1.toNatClampNeg).toNatClampNeg) (hZ.2 66 0 (by decide) (by decide) Nat.one_pos) rfl rfl (inb_vp b3) rfl dX11_stepOnce_21 ?_
      refine a_aload_n dX11_stepOnce_22 0 rfl rfl ?_
      refine a_getR hZ.1 (hZ.2 60 0 (by decide) (by decide) Nat.one_pos) fl_X11_39 rfl 0 rfl dX11_stepOnce_23 ?_
      refine a_iload_n dX11_stepOnce_26 1 rfl rfl ?_
      obtain ⟨b4, hF⟩ := gd_some hF
      refine a_iald hZ.1 (s 67 0 v1.toNatClampNeg) (hZ.2 67 0 (by decide) (by decide) Nat.one_pos) rfl rfl (inb_vp b4) rfl dX11_stepOnce_27 ?_
      refine a_aload_n dX11_stepOnce_28 0 rfl rfl ?_
      refine a_getI hZ.1 (s 60 0 10) (hZ.2 60 0 (by decide) (by decide) Nat.one_pos) fl_X11_188 rfl rfl dX11_stepOnce_29 ?_
      refine a_icmp_ne 44 dX11_stepOnce_32 (by decide) (fun c5 => ?_) (fun c5 => ?_)
      · replace hF := (if_neg c5).symm.trans hF
        refine a_iconst (v := (0 : Int32)) dX11_stepOnce_44 (by decide) ?_
        exact w_X11_stepOnce_45 (l := l) hZ  (F_X11_stepOnce_2 (zg Z)  h53_ n_) w2_ h53_ w53_ v1 (s 68 0 v1.toNatClampNeg) (s 66 0 (s 68 0 v1.toNatClampNeg).toNatClampNeg) (0 : Int32)  _ hF
      · replace hF := (if_pos c5).symm.trans hF
        refine a_aload_n dX11_stepOnce_35 0 rfl rfl ?_
        refine a_getR hZ.1 (hZ.2 60 0 (by decide) (by decide) Nat.one_pos) fl_X11_45 rfl 0 rfl dX11_stepOnce_36 ?_
        refine a_iload_n dX11_stepOnce_39 1 rfl rfl ?_
        obtain ⟨b6, hF⟩ := gd_some hF
        refine a_iald hZ.1 (s 69 0 v1.toNatClampNeg) (hZ.2 69 0 (by decide) (by decide) Nat.one_pos) rfl rfl (inb_vp b6) rfl dX11_stepOnce_40 ?_
        refine a_goto 45 dX11_stepOnce_41 (by decide) ?_
        exact w_X11_stepOnce_45 (l := l) hZ  (F_X11_stepOnce_2 (zg Z)  h53_ n_) w2_ h53_ w53_ v1 (s 68 0 v1.toNatClampNeg) (s 66 0 (s 68 0 v1.toNatClampNeg).toNatClampNeg) (s 69 0 v1.toNatClampNeg)  _ hF
def F_X11_stepOnce (g : Nat × Nat)    (s : St) : Option (Unit × St) := ((F_X11_stepOnce_2 g  (F_X11_stepOnce_53 g  ) fu) (0 : Int32) s)
set_option maxRecDepth 100000 in
set_option maxHeartbeats 4000000 in
theorem w_X11_stepOnce {Z : ZE} {l : Launch} (hZ : OkM Z)   {R : Unit × St}    (s : St) (hF : F_X11_stepOnce (zg Z)   s = some R) : AW Z l iX11_stepOnce (Pq (rU R)) 0 0 0 [(0, .ref (za Z 60 0))] [] s := by
  unfold F_X11_stepOnce at hF
  refine a_iconst (v := (0 : Int32)) dX11_stepOnce_0 (by decide) ?_
  refine a_istore_n [(1, .int (0 : Int32)), (0, .ref (za Z 60 0))] dX11_stepOnce_1 rfl (by decide) rfl ?_
  refine a_loc [(0, .ref (za Z 60 0)), (1, .int (0 : Int32))] [1, 0] rfl ?_
  exact w_X11_stepOnce_2 (l := l) hZ  (F_X11_stepOnce_53 (zg Z)  ) (w_X11_stepOnce_53 (l := l) hZ  ) fu (0 : Int32)  _ hF
theorem m_X11_stepOnce {Z : ZE} {l : Launch} (hZ : OkM Z)   {s : St} {R : Unit × St} (hF : F_X11_stepOnce (zg Z)  s = some R) : Sp Z l yX11_stepOnce iX11_stepOnce [.ref (za Z 60 0)] s (rU R) :=
  Sp.of (by decide) rfl (Nat.le_of_ble_eq_true rfl) (w_X11_stepOnce hZ  s hF)
-- X11_step
def F_X11_step_22 (g : Nat × Nat) (a1 : Int32)  : Nat → Int32 → St → Option (Int32 × St)
  | 0, _, _ => none
  | n_ + 1, v2, s => (if a1 ≤ v2 then (some (v2, s)) else (if (100 : Int32) ≤ (s 60 0 10) then (some (v2, s)) else (bd (F_X11_stepOnce g  s) (fun r37 s37 => (F_X11_step_22 g a1  n_ (v2 + 1) s37)))))
set_option maxRecDepth 100000 in
set_option maxHeartbeats 4000000 in
theorem w_X11_step_22 {Z : ZE} {l : Launch} (hZ : OkM Z) {a1 : Int32}  {R : Int32 × St}  : ∀ (n_ : Nat) (v2 : Int32)  (s : St), F_X11_step_22 (zg Z) a1 n_ v2 s = some R → AW Z l iX11_step (Pq (rI R)) 0 0 22 [(0, .ref (za Z 60 0)), (1, .int a1), (2, .int v2)] [] s := by
  intro n_
  induction n_ with
  | zero =>
    intro v2 s hF
    exact absurd hF (by rw [F_X11_step_22]; exact fun q => by cases q)
  | succ n_ w22_ =>
    intro v2 s hF
    rw [F_X11_step_22] at hF
    refine a_iload_n dX11_step_22 2 rfl rfl ?_
    refine a_iload_n dX11_step_23 1 rfl rfl ?_
    refine a_icmp_ge 46 dX11_step_24 (by decide) (fun c1 => ?_) (fun c1 => ?_)
    · replace hF := (if_pos c1).symm.trans hF
      refine a_iload_n dX11_step_46 2 rfl rfl ?_
      replace hF := Option.some.inj hF
      subst hF
      exact a_iret rfl (Nat.zero_le _) (Nat.zero_le _) dX11_step_47 ⟨rfl, rfl⟩
    · replace hF := (if_neg c1).symm.trans hF
      refine a_aload_n dX11_step_27 0 rfl rfl ?_
      refine a_getI hZ.1 (s 60 0 10) (hZ.2 60 0 (by decide) (by decide) Nat.one_pos) fl_X11_188 rfl rfl dX11_step_28 ?_
      refine a_bipush (v := (100 : Int32)) dX11_step_31 (by decide) ?_
      refine a_icmp_ge 46 dX11_step_33 (by decide) (fun c2 => ?_) (fun c2 => ?_)
      · replace hF := (if_pos c2).symm.trans hF
        refine a_iload_n dX11_step_46 2 rfl rfl ?_
        replace hF := Option.some.inj hF
        subst hF
        exact a_iret rfl (Nat.zero_le _) (Nat.zero_le _) dX11_step_47 ⟨rfl, rfl⟩
      · replace hF := (if_neg c2).symm.trans hF
        refine a_aload_n dX11_step_36 0 rfl rfl ?_
        obtain ⟨r37, s37, e37, hF⟩ := bd_some hF
        refine a_invV hZ.1 (As := []) (rest := []) (hZ.2 60 0 (by decide) (by decide) Nat.one_pos) lk_X11_210 ⟨⟨by decide, by decide⟩, by decide, by decide⟩ rfl (Nat.le_of_ble_eq_true rfl) dX11_step_37 (m_X11_stepOnce hZ  e37) ?_
        show AW Z l iX11_step (Pq (rI R)) 0 0 40 [(0, .ref (za Z 60 0)), (1, .int a1), (2, .int v2)] [] s37
        refine a_iinc [(2, .int (v2 + 1)), (0, .ref (za Z 60 0)), (1, .int a1)] dX11_step_40 2 rfl rfl (by decide) rfl ?_
        refine a_goto 22 dX11_step_43 (by decide) ?_
        refine a_loc [(0, .ref (za Z 60 0)), (1, .int a1), (2, .int (v2 + 1))] [1, 2, 0] rfl ?_
        exact w22_ (v2 + 1)  _ hF
def F_X11_step (g : Nat × Nat) (a1 : Int32)   (s : St) : Option (Int32 × St) := (bd (F_X11_in g a1.toInt64 (1 : Int64) (20 : Int64) (up s 60 0 0 (0 : Int32))) (fun r11 s11 => (if r11 = 0 then (some ((-1000001), s11)) else (F_X11_step_22 g a1  fu (0 : Int32) s11))))
set_option maxRecDepth 100000 in
set_option maxHeartbeats 4000000 in
theorem w_X11_step {Z : ZE} {l : Launch} (hZ : OkM Z) {a1 : Int32}  {R : Int32 × St}    (s : St) (hF : F_X11_step (zg Z) a1  s = some R) : AW Z l iX11_step (Pq (rI R)) 0 0 0 [(0, .ref (za Z 60 0)), (1, .int a1)] [] s := by
  unfold F_X11_step at hF
  refine a_aload_n dX11_step_0 0 rfl rfl ?_
  refine a_iconst (v := (0 : Int32)) dX11_step_1 (by decide) ?_
  refine a_put hZ.1 (hZ.2 60 0 (by decide) (by decide) Nat.one_pos) fl_X11_1 rfl rfl rfl dX11_step_2 ?_
  refine a_iload_n dX11_step_5 1 rfl rfl ?_
  refine a_i2l dX11_step_6 ?_
  refine a_lconst (v := (1 : Int64)) dX11_step_7 (by decide) ?_
  refine a_ldc2 (v := (20 : Int64)) kw_1200 dX11_step_8 ?_
  obtain ⟨r11, s11, e11, hF⟩ := bd_some hF
  refine a_invS hZ.1 (As := [.long a1.toInt64, .long (1 : Int64), .long (20 : Int64)]) (rest := []) lk_X11_126 ⟨⟨by decide, by decide⟩, by decide, by decide⟩ rfl (Nat.le_of_ble_eq_true rfl) dX11_step_11 (m_X11_in hZ  e11) ?_
  show AW Z l iX11_step (Pq (rI R)) 0 0 14 [(0, .ref (za Z 60 0)), (1, .int a1)] [.int r11] s11
  refine a_if_ne 20 dX11_step_14 (by decide) (fun c1 => ?_) (fun c1 => ?_)
  · replace hF := (if_neg c1).symm.trans hF
    refine a_iconst (v := (0 : Int32)) dX11_step_20 (by decide) ?_
    refine a_istore_n [(2, .int (0 : Int32)), (0, .ref (za Z 60 0)), (1, .int a1)] dX11_step_21 rfl (by decide) rfl ?_
    refine a_loc [(0, .ref (za Z 60 0)), (1, .int a1), (2, .int (0 : Int32))] [1, 2, 0] rfl ?_
    exact w_X11_step_22 (l := l) hZ   fu (0 : Int32)  _ hF
  · replace hF := (if_pos c1).symm.trans hF
    refine a_ldc (v := (-1000001)) kw_1136 dX11_step_17 ?_
    replace hF := Option.some.inj hF
    subst hF
    exact a_iret rfl (Nat.zero_le _) (Nat.zero_le _) dX11_step_19 ⟨rfl, rfl⟩
theorem m_X11_step {Z : ZE} {l : Launch} (hZ : OkM Z) {a1 : Int32}  {s : St} {R : Int32 × St} (hF : F_X11_step (zg Z) a1 s = some R) : Sp Z l yX11_step iX11_step [.ref (za Z 60 0), .int a1] s (rI R) :=
  Sp.of (by decide) rfl (Nat.le_of_ble_eq_true rfl) (w_X11_step hZ  s hF)
-- X11_stock
def F_X11_stock (g : Nat × Nat) (a1 : Int32) (a2 : Int32) (a3 : Int32)   (s : St) : Option (Int32 × St) := (bd (F_X11_isMill g a1 (up s 60 0 0 (0 : Int32))) (fun r7 s7 => (if r7 = 0 then (some ((-1000001), s7)) else (bd (F_X11_isSort g a2 s7) (fun r14 s14 => (if r14 = 0 then (some ((-1000001), s14)) else (bd (F_X11_in g a3.toInt64 (0 : Int64) (9999 : Int64) s14) (fun r26 s26 => (if r26 = 0 then (some ((-1000001), s26)) else (gd (inb (((4 : Int32) * a1) + a2) 24) (gd (inb (((4 : Int32) * a1) + a2) 24) (some ((s26 74 0 (((4 : Int32) * a1) + a2).toNatClampNeg), (up s26 74 0 (((4 : Int32) * a1) + a2).toNatClampNeg a3))))))))))))))
set_option maxRecDepth 100000 in
set_option maxHeartbeats 4000000 in
theorem w_X11_stock {Z : ZE} {l : Launch} (hZ : OkM Z) {a1 : Int32} {a2 : Int32} {a3 : Int32}  {R : Int32 × St}    (s : St) (hF : F_X11_stock (zg Z) a1 a2 a3  s = some R) : AW Z l iX11_stock (Pq (rI R)) 0 0 0 [(0, .ref (za Z 60 0)), (1, .int a1), (2, .int a2), (3, .int a3)] [] s := by
  unfold F_X11_stock at hF
  refine a_aload_n dX11_stock_0 0 rfl rfl ?_
  refine a_iconst (v := (0 : Int32)) dX11_stock_1 (by decide) ?_
  refine a_put hZ.1 (hZ.2 60 0 (by decide) (by decide) Nat.one_pos) fl_X11_1 rfl rfl rfl dX11_stock_2 ?_
  refine a_aload_n dX11_stock_5 0 rfl rfl ?_
  refine a_iload_n dX11_stock_6 1 rfl rfl ?_
  obtain ⟨r7, s7, e7, hF⟩ := bd_some hF
  refine a_invV hZ.1 (As := [.int a1]) (rest := []) (hZ.2 60 0 (by decide) (by decide) Nat.one_pos) lk_X11_177 ⟨⟨by decide, by decide⟩, by decide, by decide⟩ rfl (Nat.le_of_ble_eq_true rfl) dX11_stock_7 (m_X11_isMill hZ  e7) ?_
  show AW Z l iX11_stock (Pq (rI R)) 0 0 10 [(0, .ref (za Z 60 0)), (1, .int a1), (2, .int a2), (3, .int a3)] [.int r7] s7
  refine a_if_eq 32 dX11_stock_10 (by decide) (fun c1 => ?_) (fun c1 => ?_)
  · replace hF := (if_pos c1).symm.trans hF
    refine a_ldc (v := (-1000001)) kw_1136 dX11_stock_32 ?_
    replace hF := Option.some.inj hF
    subst hF
    exact a_iret rfl (Nat.zero_le _) (Nat.zero_le _) dX11_stock_34 ⟨rfl, rfl⟩
  · replace hF := (if_neg c1).symm.trans hF
    refine a_iload_n dX11_stock_13 2 rfl rfl ?_
    obtain ⟨r14, s14, e14, hF⟩ := bd_some hF
    refine a_invS hZ.1 (As := [.int a2]) (rest := []) lk_X11_150 ⟨⟨by decide, by decide⟩, by decide, by decide⟩ rfl (Nat.le_of_ble_eq_true rfl) dX11_stock_14 (m_X11_isSort hZ  e14) ?_
    show AW Z l iX11_stock (Pq (rI R)) 0 0 17 [(0, .ref (za Z 60 0)), (1, .int a1), (2, .int a2), (3, .int a3)] [.int r14] s14
    refine a_if_eq 32 dX11_stock_17 (by decide) (fun c2 => ?_) (fun c2 => ?_)
    · replace hF := (if_pos c2).symm.trans hF
      refine a_ldc (v := (-1000001)) kw_1136 dX11_stock_32 ?_
      replace hF := Option.some.inj hF
      subst hF
      exact a_iret rfl (Nat.zero_le _) (Nat.zero_le _) dX11_stock_34 ⟨rfl, rfl⟩
    · replace hF := (if_neg c2).symm.trans hF
      refine a_iload_n dX11_stock_20 3 rfl rfl ?_
      refine a_i2l dX11_stock_21 ?_
      refine a_lconst (v := (0 : Int64)) dX11_stock_22 (by decide) ?_
      refine a_ldc2 (v := (9999 : Int64)) kw_1165 dX11_stock_23 ?_
      obtain ⟨r26, s26, e26, hF⟩ := bd_some hF
      refine a_invS hZ.1 (As := [.long a3.toInt64, .long (0 : Int64), .long (9999 : Int64)]) (rest := []) lk_X11_126 ⟨⟨by decide, by decide⟩, by decide, by decide⟩ rfl (Nat.le_of_ble_eq_true rfl) dX11_stock_26 (m_X11_in hZ  e26) ?_
      show AW Z l iX11_stock (Pq (rI R)) 0 0 29 [(0, .ref (za Z 60 0)), (1, .int a1), (2, .int a2), (3, .int a3)] [.int r26] s26
      refine a_if_ne 35 dX11_stock_29 (by decide) (fun c3 => ?_) (fun c3 => ?_)
      · replace hF := (if_neg c3).symm.trans hF
        refine a_aload_n dX11_stock_35 0 rfl rfl ?_
        refine a_getR hZ.1 (hZ.2 60 0 (by decide) (by decide) Nat.one_pos) fl_X11_60 rfl 0 rfl dX11_stock_36 ?_
        refine a_iconst (v := (4 : Int32)) dX11_stock_39 (by decide) ?_
        refine a_iload_n dX11_stock_40 1 rfl rfl ?_
        refine a_imul dX11_stock_41 ?_
        refine a_iload_n dX11_stock_42 2 rfl rfl ?_
        refine a_iadd dX11_stock_43 ?_
        obtain ⟨b4, hF⟩ := gd_some hF
        refine a_iald hZ.1 (s26 74 0 (((4 : Int32) * a1) + a2).toNatClampNeg) (hZ.2 74 0 (by decide) (by decide) Nat.one_pos) rfl rfl (inb_vp b4) rfl dX11_stock_44 ?_
        refine a_istore [(4, .int (s26 74 0 (((4 : Int32) * a1) + a2).toNatClampNeg)), (0, .ref (za Z 60 0)), (1, .int a1), (2, .int a2), (3, .int a3)] dX11_stock_45 (by decide) rfl ?_
        refine a_aload_n dX11_stock_47 1 rfl rfl ?_
        refine a_getR hZ.1 (hZ.2 60 0 (by decide) (by decide) Nat.one_pos) fl_X11_60 rfl 0 rfl dX11_stock_48 ?_
        refine a_iconst (v := (4 : Int32)) dX11_stock_51 (by decide) ?_
        refine a_iload_n dX11_stock_52 2 rfl rfl ?_
        refine a_imul dX11_stock_53 ?_
        refine a_iload_n dX11_stock_54 3 rfl rfl ?_
        refine a_iadd dX11_stock_55 ?_
        refine a_iload_n dX11_stock_56 4 rfl rfl ?_
        obtain ⟨b5, hF⟩ := gd_some hF
        refine a_iast hZ.1 (hZ.2 74 0 (by decide) (by decide) Nat.one_pos) rfl rfl (inb_vp b5) dX11_stock_57 ?_
        refine a_iload dX11_stock_58 0 rfl ?_
        replace hF := Option.some.inj hF
        subst hF
        exact a_iret rfl (Nat.zero_le _) (Nat.zero_le _) dX11_stock_60 ⟨rfl, rfl⟩
      · replace hF := (if_pos c3).symm.trans hF
        refine a_ldc (v := (-1000001)) kw_1136 dX11_stock_32 ?_
        replace hF := Option.some.inj hF
        subst hF
        exact a_iret rfl (Nat.zero_le _) (Nat.zero_le _) dX11_stock_34 ⟨rfl, rfl⟩
theorem m_X11_stock {Z : ZE} {l : Launch} (hZ : OkM Z) {a1 : Int32} {a2 : Int32} {a3 : Int32}  {s : St} {R : Int32 × St} (hF : F_X11_stock (zg Z) a1 a2 a3 s = some R) : Sp Z l yX11_stock iX11_stock [.ref (za Z 60 0), .int a1, .int a2, .int a3] s (rI R) :=
  Sp.of (by decide) rfl (Nat.le_of_ble_eq_true rfl) (w_X11_stock hZ  s hF)
-- X11_stuff
def F_X11_stuff_152 (g : Nat × Nat) (a1 : Int32) (a2 : Int32) (a3 : Int32)  (x0 : Int32) (s : St) : Option (Int32 × St) := (if a2 = 0 then (gd (inb a1 4) (some (x0, (up s 64 0 a1.toNatClampNeg a3)))) else (if a2 = (1 : Int32) then (gd (inb a1 4) (some (x0, (up s 65 0 a1.toNatClampNeg a3)))) else (if a2 = (2 : Int32) then (gd (inb a1 4) (some (x0, (up s 66 0 a1.toNatClampNeg a3)))) else (if a2 = (3 : Int32) then (some (x0, (up s 60 0 8 a3))) else (some (x0, (up s 60 0 9 a3)))))))
set_option maxRecDepth 100000 in
set_option maxHeartbeats 4000000 in
theorem w_X11_stuff_152 {Z : ZE} {l : Launch} (hZ : OkM Z) {a1 : Int32} {a2 : Int32} {a3 : Int32}  {R : Int32 × St}  (x0 : Int32)  (s : St) (hF : F_X11_stuff_152 (zg Z) a1 a2 a3 x0 s = some R) : AW Z l iX11_stuff (Pq (rI R)) 0 0 152 [(0, .ref (za Z 60 0)), (1, .int a1), (2, .int a2), (3, .int a3)] [.int x0] s := by
  unfold F_X11_stuff_152 at hF
  refine a_istore [(4, .int x0), (0, .ref (za Z 60 0)), (1, .int a1), (2, .int a2), (3, .int a3)] dX11_stuff_152 (by decide) rfl ?_
  refine a_iload_n dX11_stuff_154 3 rfl rfl ?_
  refine a_if_ne 168 dX11_stuff_155 (by decide) (fun c1 => ?_) (fun c1 => ?_)
  · replace hF := (if_neg c1).symm.trans hF
    refine a_iload_n dX11_stuff_168 3 rfl rfl ?_
    refine a_iconst (v := (1 : Int32)) dX11_stuff_169 (by decide) ?_
    refine a_icmp_ne 183 dX11_stuff_170 (by decide) (fun c2 => ?_) (fun c2 => ?_)
    · replace hF := (if_neg c2).symm.trans hF
      refine a_iload_n dX11_stuff_183 3 rfl rfl ?_
      refine a_iconst (v := (2 : Int32)) dX11_stuff_184 (by decide) ?_
      refine a_icmp_ne 198 dX11_stuff_185 (by decide) (fun c3 => ?_) (fun c3 => ?_)
      · replace hF := (if_neg c3).symm.trans hF
        refine a_iload_n dX11_stuff_198 3 rfl rfl ?_
        refine a_iconst (v := (3 : Int32)) dX11_stuff_199 (by decide) ?_
        refine a_icmp_ne 211 dX11_stuff_200 (by decide) (fun c4 => ?_) (fun c4 => ?_)
        · replace hF := (if_neg c4).symm.trans hF
          refine a_aload_n dX11_stuff_211 1 rfl rfl ?_
          refine a_iload_n dX11_stuff_212 4 rfl rfl ?_
          refine a_put hZ.1 (hZ.2 60 0 (by decide) (by decide) Nat.one_pos) fl_X11_161 rfl rfl rfl dX11_stuff_213 ?_
          refine a_iload dX11_stuff_216 0 rfl ?_
          replace hF := Option.some.inj hF
          subst hF
          exact a_iret rfl (Nat.zero_le _) (Nat.zero_le _) dX11_stuff_218 ⟨rfl, rfl⟩
        · replace hF := (if_pos c4).symm.trans hF
          refine a_aload_n dX11_stuff_203 1 rfl rfl ?_
          refine a_iload_n dX11_stuff_204 4 rfl rfl ?_
          refine a_put hZ.1 (hZ.2 60 0 (by decide) (by decide) Nat.one_pos) fl_X11_36 rfl rfl rfl dX11_stuff_205 ?_
          refine a_goto 216 dX11_stuff_208 (by decide) ?_
          refine a_iload dX11_stuff_216 0 rfl ?_
          replace hF := Option.some.inj hF
          subst hF
          exact a_iret rfl (Nat.zero_le _) (Nat.zero_le _) dX11_stuff_218 ⟨rfl, rfl⟩
      · replace hF := (if_pos c3).symm.trans hF
        refine a_aload_n dX11_stuff_188 1 rfl rfl ?_
        refine a_getR hZ.1 (hZ.2 60 0 (by decide) (by decide) Nat.one_pos) fl_X11_33 rfl 0 rfl dX11_stuff_189 ?_
        refine a_iload_n dX11_stuff_192 2 rfl rfl ?_
        refine a_iload_n dX11_stuff_193 4 rfl rfl ?_
        obtain ⟨b5, hF⟩ := gd_some hF
        refine a_iast hZ.1 (hZ.2 66 0 (by decide) (by decide) Nat.one_pos) rfl rfl (inb_vp b5) dX11_stuff_194 ?_
        refine a_goto 216 dX11_stuff_195 (by decide) ?_
        refine a_iload dX11_stuff_216 0 rfl ?_
        replace hF := Option.some.inj hF
        subst hF
        exact a_iret rfl (Nat.zero_le _) (Nat.zero_le _) dX11_stuff_218 ⟨rfl, rfl⟩
    · replace hF := (if_pos c2).symm.trans hF
      refine a_aload_n dX11_stuff_173 1 rfl rfl ?_
      refine a_getR hZ.1 (hZ.2 60 0 (by decide) (by decide) Nat.one_pos) fl_X11_30 rfl 0 rfl dX11_stuff_174 ?_
      refine a_iload_n dX11_stuff_177 2 rfl rfl ?_
      refine a_iload_n dX11_stuff_178 4 rfl rfl ?_
      obtain ⟨b6, hF⟩ := gd_some hF
      refine a_iast hZ.1 (hZ.2 65 0 (by decide) (by decide) Nat.one_pos) rfl rfl (inb_vp b6) dX11_stuff_179 ?_
      refine a_goto 216 dX11_stuff_180 (by decide) ?_
      refine a_iload dX11_stuff_216 0 rfl ?_
      replace hF := Option.some.inj hF
      subst hF
      exact a_iret rfl (Nat.zero_le _) (Nat.zero_le _) dX11_stuff_218 ⟨rfl, rfl⟩
  · replace hF := (if_pos c1).symm.trans hF
    refine a_aload_n dX11_stuff_158 1 rfl rfl ?_
    refine a_getR hZ.1 (hZ.2 60 0 (by decide) (by decide) Nat.one_pos) fl_X11_27 rfl 0 rfl dX11_stuff_159 ?_
    refine a_iload_n dX11_stuff_162 2 rfl rfl ?_
    refine a_iload_n dX11_stuff_163 4 rfl rfl ?_
    obtain ⟨b7, hF⟩ := gd_some hF
    refine a_iast hZ.1 (hZ.2 64 0 (by decide) (by decide) Nat.one_pos) rfl rfl (inb_vp b7) dX11_stuff_164 ?_
    refine a_goto 216 dX11_stuff_165 (by decide) ?_
    refine a_iload dX11_stuff_216 0 rfl ?_
    replace hF := Option.some.inj hF
    subst hF
    exact a_iret rfl (Nat.zero_le _) (Nat.zero_le _) dX11_stuff_218 ⟨rfl, rfl⟩
def F_X11_stuff_86 (g : Nat × Nat) (a1 : Int32) (a2 : Int32) (a3 : Int32)  (x0 : Int64) (x1 : Int64) (x2 : Int64) (s : St) : Option (Int32 × St) := (bd (F_X11_in g x0 x1 x2 s) (fun r86 s86 => (if r86 = 0 then (some ((-1000001), s86)) else (if a2 = 0 then (gd (inb a1 4) (F_X11_stuff_152 g a1 a2 a3  (s86 64 0 a1.toNatClampNeg) s86)) else (if a2 = (1 : Int32) then (gd (inb a1 4) (F_X11_stuff_152 g a1 a2 a3  (s86 65 0 a1.toNatClampNeg) s86)) else (if a2 = (2 : Int32) then (gd (inb a1 4) (F_X11_stuff_152 g a1 a2 a3  (s86 66 0 a1.toNatClampNeg) s86)) else (if a2 = (3 : Int32) then (F_X11_stuff_152 g a1 a2 a3  (s86 60 0 8) s86) else (F_X11_stuff_152 g a1 a2 a3  (s86 60 0 9) s86))))))))
set_option maxRecDepth 100000 in
set_option maxHeartbeats 4000000 in
theorem w_X11_stuff_86 {Z : ZE} {l : Launch} (hZ : OkM Z) {a1 : Int32} {a2 : Int32} {a3 : Int32}  {R : Int32 × St}  (x0 : Int64) (x1 : Int64) (x2 : Int64)  (s : St) (hF : F_X11_stuff_86 (zg Z) a1 a2 a3 x0 x1 x2 s = some R) : AW Z l iX11_stuff (Pq (rI R)) 0 0 86 [(0, .ref (za Z 60 0)), (1, .int a1), (2, .int a2), (3, .int a3)] [.long x2, .long x1, .long x0] s := by
  unfold F_X11_stuff_86 at hF
  obtain ⟨r86, s86, e86, hF⟩ := bd_some hF
  refine a_invS hZ.1 (As := [.long x0, .long x1, .long x2]) (rest := []) lk_X11_126 ⟨⟨by decide, by decide⟩, by decide, by decide⟩ rfl (Nat.le_of_ble_eq_true rfl) dX11_stuff_86 (m_X11_in hZ  e86) ?_
  show AW Z l iX11_stuff (Pq (rI R)) 0 0 89 [(0, .ref (za Z 60 0)), (1, .int a1), (2, .int a2), (3, .int a3)] [.int r86] s86
  refine a_if_ne 95 dX11_stuff_89 (by decide) (fun c1 => ?_) (fun c1 => ?_)
  · replace hF := (if_neg c1).symm.trans hF
    refine a_iload_n dX11_stuff_95 2 rfl rfl ?_
    refine a_if_ne 108 dX11_stuff_96 (by decide) (fun c2 => ?_) (fun c2 => ?_)
    · replace hF := (if_neg c2).symm.trans hF
      refine a_iload_n dX11_stuff_108 2 rfl rfl ?_
      refine a_iconst (v := (1 : Int32)) dX11_stuff_109 (by decide) ?_
      refine a_icmp_ne 122 dX11_stuff_110 (by decide) (fun c3 => ?_) (fun c3 => ?_)
      · replace hF := (if_neg c3).symm.trans hF
        refine a_iload_n dX11_stuff_122 2 rfl rfl ?_
        refine a_iconst (v := (2 : Int32)) dX11_stuff_123 (by decide) ?_
        refine a_icmp_ne 136 dX11_stuff_124 (by decide) (fun c4 => ?_) (fun c4 => ?_)
        · replace hF := (if_neg c4).symm.trans hF
          refine a_iload_n dX11_stuff_136 2 rfl rfl ?_
          refine a_iconst (v := (3 : Int32)) dX11_stuff_137 (by decide) ?_
          refine a_icmp_ne 148 dX11_stuff_138 (by decide) (fun c5 => ?_) (fun c5 => ?_)
          · replace hF := (if_neg c5).symm.trans hF
            refine a_aload_n dX11_stuff_148 0 rfl rfl ?_
            refine a_getI hZ.1 (s86 60 0 9) (hZ.2 60 0 (by decide) (by decide) Nat.one_pos) fl_X11_161 rfl rfl dX11_stuff_149 ?_
            exact w_X11_stuff_152 (l := l) hZ   (s86 60 0 9)  _ hF
          · replace hF := (if_pos c5).symm.trans hF
            refine a_aload_n dX11_stuff_141 0 rfl rfl ?_
            refine a_getI hZ.1 (s86 60 0 8) (hZ.2 60 0 (by decide) (by decide) Nat.one_pos) fl_X11_36 rfl rfl dX11_stuff_142 ?_
            refine a_goto 152 dX11_stuff_145 (by decide) ?_
            exact w_X11_stuff_152 (l := l) hZ   (s86 60 0 8)  _ hF
        · replace hF := (if_pos c4).symm.trans hF
          refine a_aload_n dX11_stuff_127 0 rfl rfl ?_
          refine a_getR hZ.1 (hZ.2 60 0 (by decide) (by decide) Nat.one_pos) fl_X11_33 rfl 0 rfl dX11_stuff_128 ?_
          refine a_iload_n dX11_stuff_131 1 rfl rfl ?_
          obtain ⟨b6, hF⟩ := gd_some hF
          refine a_iald hZ.1 (s86 66 0 a1.toNatClampNeg) (hZ.2 66 0 (by decide) (by decide) Nat.one_pos) rfl rfl (inb_vp b6) rfl dX11_stuff_132 ?_
          refine a_goto 152 dX11_stuff_133 (by decide) ?_
          exact w_X11_stuff_152 (l := l) hZ   (s86 66 0 a1.toNatClampNeg)  _ hF
      · replace hF := (if_pos c3).symm.trans hF
        refine a_aload_n dX11_stuff_113 0 rfl rfl ?_
        refine a_getR hZ.1 (hZ.2 60 0 (by decide) (by decide) Nat.one_pos) fl_X11_30 rfl 0 rfl dX11_stuff_114 ?_
        refine a_iload_n dX11_stuff_117 1 rfl rfl ?_
        obtain ⟨b7, hF⟩ := gd_some hF
        refine a_iald hZ.1 (s86 65 0 a1.toNatClampNeg) (hZ.2 65 0 (by decide) (by decide) Nat.one_pos) rfl rfl (inb_vp b7) rfl dX11_stuff_118 ?_
        refine a_goto 152 dX11_stuff_119 (by decide) ?_
        exact w_X11_stuff_152 (l := l) hZ   (s86 65 0 a1.toNatClampNeg)  _ hF
    · replace hF := (if_pos c2).symm.trans hF
      refine a_aload_n dX11_stuff_99 0 rfl rfl ?_
      refine a_getR hZ.1 (hZ.2 60 0 (by decide) (by decide) Nat.one_pos) fl_X11_27 rfl 0 rfl dX11_stuff_100 ?_
      refine a_iload_n dX11_stuff_103 1 rfl rfl ?_
      obtain ⟨b8, hF⟩ := gd_some hF
      refine a_iald hZ.1 (s86 64 0 a1.toNatClampNeg) (hZ.2 64 0 (by decide) (by decide) Nat.one_pos) rfl rfl (inb_vp b8) rfl dX11_stuff_104 ?_
      refine a_goto 152 dX11_stuff_105 (by decide) ?_
      exact w_X11_stuff_152 (l := l) hZ   (s86 64 0 a1.toNatClampNeg)  _ hF
  · replace hF := (if_pos c1).symm.trans hF
    refine a_ldc (v := (-1000001)) kw_1136 dX11_stuff_92 ?_
    replace hF := Option.some.inj hF
    subst hF
    exact a_iret rfl (Nat.zero_le _) (Nat.zero_le _) dX11_stuff_94 ⟨rfl, rfl⟩
def F_X11_stuff_40 (g : Nat × Nat) (a1 : Int32) (a2 : Int32) (a3 : Int32)  (x0 : Int64) (x1 : Int64) (s : St) : Option (Int32 × St) := (if a2 = 0 then (F_X11_stuff_86 g a1 a2 a3  x0 x1 (1000 : Int64) s) else (if a2 = (1 : Int32) then (F_X11_stuff_86 g a1 a2 a3  x0 x1 (99 : Int64) s) else (if a2 = (2 : Int32) then (F_X11_stuff_86 g a1 a2 a3  x0 x1 (9999 : Int64) s) else (if a2 = (3 : Int32) then (F_X11_stuff_86 g a1 a2 a3  x0 x1 (5000 : Int64) s) else (F_X11_stuff_86 g a1 a2 a3  x0 x1 (100 : Int64) s)))))
set_option maxRecDepth 100000 in
set_option maxHeartbeats 4000000 in
theorem w_X11_stuff_40 {Z : ZE} {l : Launch} (hZ : OkM Z) {a1 : Int32} {a2 : Int32} {a3 : Int32}  {R : Int32 × St}  (x0 : Int64) (x1 : Int64)  (s : St) (hF : F_X11_stuff_40 (zg Z) a1 a2 a3 x0 x1 s = some R) : AW Z l iX11_stuff (Pq (rI R)) 0 0 40 [(0, .ref (za Z 60 0)), (1, .int a1), (2, .int a2), (3, .int a3)] [.long x1, .long x0] s := by
  unfold F_X11_stuff_40 at hF
  refine a_iload_n dX11_stuff_40 2 rfl rfl ?_
  refine a_if_ne 50 dX11_stuff_41 (by decide) (fun c1 => ?_) (fun c1 => ?_)
  · replace hF := (if_neg c1).symm.trans hF
    refine a_iload_n dX11_stuff_50 2 rfl rfl ?_
    refine a_iconst (v := (1 : Int32)) dX11_stuff_51 (by decide) ?_
    refine a_icmp_ne 61 dX11_stuff_52 (by decide) (fun c2 => ?_) (fun c2 => ?_)
    · replace hF := (if_neg c2).symm.trans hF
      refine a_iload_n dX11_stuff_61 2 rfl rfl ?_
      refine a_iconst (v := (2 : Int32)) dX11_stuff_62 (by decide) ?_
      refine a_icmp_ne 72 dX11_stuff_63 (by decide) (fun c3 => ?_) (fun c3 => ?_)
      · replace hF := (if_neg c3).symm.trans hF
        refine a_iload_n dX11_stuff_72 2 rfl rfl ?_
        refine a_iconst (v := (3 : Int32)) dX11_stuff_73 (by decide) ?_
        refine a_icmp_ne 83 dX11_stuff_74 (by decide) (fun c4 => ?_) (fun c4 => ?_)
        · replace hF := (if_neg c4).symm.trans hF
          refine a_ldc2 (v := (100 : Int64)) kw_1167 dX11_stuff_83 ?_
          exact w_X11_stuff_86 (l := l) hZ   x0 x1 (100 : Int64)  _ hF
        · replace hF := (if_pos c4).symm.trans hF
          refine a_ldc2 (v := (5000 : Int64)) kw_1166 dX11_stuff_77 ?_
          refine a_goto 86 dX11_stuff_80 (by decide) ?_
          exact w_X11_stuff_86 (l := l) hZ   x0 x1 (5000 : Int64)  _ hF
      · replace hF := (if_pos c3).symm.trans hF
        refine a_ldc2 (v := (9999 : Int64)) kw_1165 dX11_stuff_66 ?_
        refine a_goto 86 dX11_stuff_69 (by decide) ?_
        exact w_X11_stuff_86 (l := l) hZ   x0 x1 (9999 : Int64)  _ hF
    · replace hF := (if_pos c2).symm.trans hF
      refine a_ldc2 (v := (99 : Int64)) kw_1164 dX11_stuff_55 ?_
      refine a_goto 86 dX11_stuff_58 (by decide) ?_
      exact w_X11_stuff_86 (l := l) hZ   x0 x1 (99 : Int64)  _ hF
  · replace hF := (if_pos c1).symm.trans hF
    refine a_ldc2 (v := (1000 : Int64)) kw_1163 dX11_stuff_44 ?_
    refine a_goto 86 dX11_stuff_47 (by decide) ?_
    exact w_X11_stuff_86 (l := l) hZ   x0 x1 (1000 : Int64)  _ hF
def F_X11_stuff_29 (g : Nat × Nat) (a1 : Int32) (a2 : Int32) (a3 : Int32)   (s : St) : Option (Int32 × St) := (if a2 = 0 then (F_X11_stuff_40 g a1 a2 a3  a3.toInt64 (1 : Int64) s) else (F_X11_stuff_40 g a1 a2 a3  a3.toInt64 (0 : Int64) s))
set_option maxRecDepth 100000 in
set_option maxHeartbeats 4000000 in
theorem w_X11_stuff_29 {Z : ZE} {l : Launch} (hZ : OkM Z) {a1 : Int32} {a2 : Int32} {a3 : Int32}  {R : Int32 × St}    (s : St) (hF : F_X11_stuff_29 (zg Z) a1 a2 a3  s = some R) : AW Z l iX11_stuff (Pq (rI R)) 0 0 29 [(0, .ref (za Z 60 0)), (1, .int a1), (2, .int a2), (3, .int a3)] [] s := by
  unfold F_X11_stuff_29 at hF
  refine a_iload_n dX11_stuff_29 3 rfl rfl ?_
  refine a_i2l dX11_stuff_30 ?_
  refine a_iload_n dX11_stuff_31 2 rfl rfl ?_
  refine a_if_ne 39 dX11_stuff_32 (by decide) (fun c1 => ?_) (fun c1 => ?_)
  · replace hF := (if_neg c1).symm.trans hF
    refine a_lconst (v := (0 : Int64)) dX11_stuff_39 (by decide) ?_
    exact w_X11_stuff_40 (l := l) hZ   a3.toInt64 (0 : Int64)  _ hF
  · replace hF := (if_pos c1).symm.trans hF
    refine a_lconst (v := (1 : Int64)) dX11_stuff_35 (by decide) ?_
    refine a_goto 40 dX11_stuff_36 (by decide) ?_
    exact w_X11_stuff_40 (l := l) hZ   a3.toInt64 (1 : Int64)  _ hF
def F_X11_stuff (g : Nat × Nat) (a1 : Int32) (a2 : Int32) (a3 : Int32)   (s : St) : Option (Int32 × St) := (bd (F_X11_in g a2.toInt64 (0 : Int64) (4 : Int64) (up s 60 0 0 (0 : Int32))) (fun r11 s11 => (if r11 = 0 then (some ((-1000001), s11)) else (if (3 : Int32) ≤ a2 then (F_X11_stuff_29 g a1 a2 a3   s11) else (bd (F_X11_isSort g a1 s11) (fun r23 s23 => (if r23 = 0 then (some ((-1000001), s23)) else (F_X11_stuff_29 g a1 a2 a3   s23))))))))
set_option maxRecDepth 100000 in
set_option maxHeartbeats 4000000 in
theorem w_X11_stuff {Z : ZE} {l : Launch} (hZ : OkM Z) {a1 : Int32} {a2 : Int32} {a3 : Int32}  {R : Int32 × St}    (s : St) (hF : F_X11_stuff (zg Z) a1 a2 a3  s = some R) : AW Z l iX11_stuff (Pq (rI R)) 0 0 0 [(0, .ref (za Z 60 0)), (1, .int a1), (2, .int a2), (3, .int a3)] [] s := by
  unfold F_X11_stuff at hF
  refine a_aload_n dX11_stuff_0 0 rfl rfl ?_
  refine a_iconst (v := (0 : Int32)) dX11_stuff_1 (by decide) ?_
  refine a_put hZ.1 (hZ.2 60 0 (by decide) (by decide) Nat.one_pos) fl_X11_1 rfl rfl rfl dX11_stuff_2 ?_
  refine a_iload_n dX11_stuff_5 2 rfl rfl ?_
  refine a_i2l dX11_stuff_6 ?_
  refine a_lconst (v := (0 : Int64)) dX11_stuff_7 (by decide) ?_
  refine a_ldc2 (v := (4 : Int64)) kw_1158 dX11_stuff_8 ?_
  obtain ⟨r11, s11, e11, hF⟩ := bd_some hF
  refine a_invS hZ.1 (As := [.long a2.toInt64, .long (0 : Int64), .long (4 : Int64)]) (rest := []) lk_X11_126 ⟨⟨by decide, by decide⟩, by decide, by decide⟩ rfl (Nat.le_of_ble_eq_true rfl) dX11_stuff_11 (m_X11_in hZ  e11) ?_
  show AW Z l iX11_stuff (Pq (rI R)) 0 0 14 [(0, .ref (za Z 60 0)), (1, .int a1), (2, .int a2), (3, .int a3)] [.int r11] s11
  refine a_if_eq 92 dX11_stuff_14 (by decide) (fun c1 => ?_) (fun c1 => ?_)
  · replace hF := (if_pos c1).symm.trans hF
    refine a_ldc (v := (-1000001)) kw_1136 dX11_stuff_92 ?_
    replace hF := Option.some.inj hF
    subst hF
    exact a_iret rfl (Nat.zero_le _) (Nat.zero_le _) dX11_stuff_94 ⟨rfl, rfl⟩
  · replace hF := (if_neg c1).symm.trans hF
    refine a_iload_n dX11_stuff_17 2 rfl rfl ?_
    refine a_iconst (v := (3 : Int32)) dX11_stuff_18 (by decide) ?_
    refine a_icmp_ge 29 dX11_stuff_19 (by decide) (fun c2 => ?_) (fun c2 => ?_)
    · replace hF := (if_pos c2).symm.trans hF
      exact w_X11_stuff_29 (l := l) hZ     _ hF
    · replace hF := (if_neg c2).symm.trans hF
      refine a_iload_n dX11_stuff_22 1 rfl rfl ?_
      obtain ⟨r23, s23, e23, hF⟩ := bd_some hF
      refine a_invS hZ.1 (As := [.int a1]) (rest := []) lk_X11_150 ⟨⟨by decide, by decide⟩, by decide, by decide⟩ rfl (Nat.le_of_ble_eq_true rfl) dX11_stuff_23 (m_X11_isSort hZ  e23) ?_
      show AW Z l iX11_stuff (Pq (rI R)) 0 0 26 [(0, .ref (za Z 60 0)), (1, .int a1), (2, .int a2), (3, .int a3)] [.int r23] s23
      refine a_if_eq 92 dX11_stuff_26 (by decide) (fun c3 => ?_) (fun c3 => ?_)
      · replace hF := (if_pos c3).symm.trans hF
        refine a_ldc (v := (-1000001)) kw_1136 dX11_stuff_92 ?_
        replace hF := Option.some.inj hF
        subst hF
        exact a_iret rfl (Nat.zero_le _) (Nat.zero_le _) dX11_stuff_94 ⟨rfl, rfl⟩
      · replace hF := (if_neg c3).symm.trans hF
        exact w_X11_stuff_29 (l := l) hZ     _ hF
theorem m_X11_stuff {Z : ZE} {l : Launch} (hZ : OkM Z) {a1 : Int32} {a2 : Int32} {a3 : Int32}  {s : St} {R : Int32 × St} (hF : F_X11_stuff (zg Z) a1 a2 a3 s = some R) : Sp Z l yX11_stuff iX11_stuff [.ref (za Z 60 0), .int a1, .int a2, .int a3] s (rI R) :=
  Sp.of (by decide) rfl (Nat.le_of_ble_eq_true rfl) (w_X11_stuff hZ  s hF)
