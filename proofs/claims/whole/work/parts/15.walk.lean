-- X11_began
def F_X11_began (g : Nat × Nat) (a1 : Int32)   (s : St) : Option (Unit × St) := (if (16 : Int32) ≤ (s 60 0 56) then (some ((), s)) else (gd (inb (s 60 0 56) 16) (some ((), (up (up s 94 0 (s 60 0 56).toNatClampNeg a1) 60 0 56 ((s 60 0 56) + (1 : Int32)))))))
set_option maxRecDepth 100000 in
set_option maxHeartbeats 4000000 in
theorem w_X11_began {Z : ZE} {l : Launch} (hZ : OkM Z) {a1 : Int32}  {R : Unit × St}    (s : St) (hF : F_X11_began (zg Z) a1  s = some R) : AW Z l iX11_began (Pq (rU R)) 0 0 0 [(0, .ref (za Z 60 0)), (1, .int a1)] [] s := by
  unfold F_X11_began at hF
  refine a_aload_n dX11_began_0 0 rfl rfl ?_
  refine a_getI hZ.1 (s 60 0 56) (hZ.2 60 0 (by decide) (by decide) Nat.one_pos) fl_X11_341 rfl rfl dX11_began_1 ?_
  refine a_bipush (v := (16 : Int32)) dX11_began_4 (by decide) ?_
  refine a_icmp_ge 29 dX11_began_6 (by decide) (fun c1 => ?_) (fun c1 => ?_)
  · replace hF := (if_pos c1).symm.trans hF
    replace hF := Option.some.inj hF
    subst hF
    exact a_vret rfl (Nat.zero_le _) (Nat.zero_le _) dX11_began_29 ⟨rfl, rfl⟩
  · replace hF := (if_neg c1).symm.trans hF
    refine a_aload_n dX11_began_9 0 rfl rfl ?_
    refine a_getR hZ.1 (hZ.2 60 0 (by decide) (by decide) Nat.one_pos) fl_X11_121 rfl 0 rfl dX11_began_10 ?_
    refine a_aload_n dX11_began_13 0 rfl rfl ?_
    refine a_getI hZ.1 (s 60 0 56) (hZ.2 60 0 (by decide) (by decide) Nat.one_pos) fl_X11_341 rfl rfl dX11_began_14 ?_
    refine a_iload_n dX11_began_17 1 rfl rfl ?_
    obtain ⟨b2, hF⟩ := gd_some hF
    refine a_iast hZ.1 (hZ.2 94 0 (by decide) (by decide) Nat.one_pos) rfl rfl (inb_vp b2) dX11_began_18 ?_
    refine a_aload_n dX11_began_19 0 rfl rfl ?_
    refine a_dup dX11_began_20 rfl ?_
    refine a_getI hZ.1 (s 60 0 56) (hZ.2 60 0 (by decide) (by decide) Nat.one_pos) fl_X11_341 rfl rfl dX11_began_21 ?_
    refine a_iconst (v := (1 : Int32)) dX11_began_24 (by decide) ?_
    refine a_iadd dX11_began_25 ?_
    refine a_put hZ.1 (hZ.2 60 0 (by decide) (by decide) Nat.one_pos) fl_X11_341 rfl rfl rfl dX11_began_26 ?_
    replace hF := Option.some.inj hF
    subst hF
    exact a_vret rfl (Nat.zero_le _) (Nat.zero_le _) dX11_began_29 ⟨rfl, rfl⟩
theorem m_X11_began {Z : ZE} {l : Launch} (hZ : OkM Z) {a1 : Int32}  {s : St} {R : Unit × St} (hF : F_X11_began (zg Z) a1 s = some R) : Sp Z l yX11_began iX11_began [.ref (za Z 60 0), .int a1] s (rU R) :=
  Sp.of (by decide) rfl (Nat.le_of_ble_eq_true rfl) (w_X11_began hZ  s hF)
-- X11_loanSize
def F_X11_loanSize (g : Nat × Nat) (a1 : Int32)   (s : St) : Option (Int32 × St) := (bd (F_X11_began g (14 : Int32) s) (fun r3 s3 => (bd (F_X11_began g (10 : Int32) s3) (fun r9 s9 => (gd (inb a1 16) (some (((s9 89 0 a1.toNatClampNeg) / (2 : Int32)), s9)))))))
set_option maxRecDepth 100000 in
set_option maxHeartbeats 4000000 in
theorem w_X11_loanSize {Z : ZE} {l : Launch} (hZ : OkM Z) {a1 : Int32}  {R : Int32 × St}    (s : St) (hF : F_X11_loanSize (zg Z) a1  s = some R) : AW Z l iX11_loanSize (Pq (rI R)) 0 0 0 [(0, .ref (za Z 60 0)), (1, .int a1)] [] s := by
  unfold F_X11_loanSize at hF
  refine a_aload_n dX11_loanSize_0 0 rfl rfl ?_
  refine a_bipush (v := (14 : Int32)) dX11_loanSize_1 (by decide) ?_
  obtain ⟨r3, s3, e3, hF⟩ := bd_some hF
  refine a_invV hZ.1 (As := [.int (14 : Int32)]) (rest := []) (hZ.2 60 0 (by decide) (by decide) Nat.one_pos) lk_X11_344 ⟨⟨by decide, by decide⟩, by decide, by decide⟩ rfl (Nat.le_of_ble_eq_true rfl) dX11_loanSize_3 (m_X11_began hZ  e3) ?_
  show AW Z l iX11_loanSize (Pq (rI R)) 0 0 6 [(0, .ref (za Z 60 0)), (1, .int a1)] [] s3
  refine a_aload_n dX11_loanSize_6 0 rfl rfl ?_
  refine a_bipush (v := (10 : Int32)) dX11_loanSize_7 (by decide) ?_
  obtain ⟨r9, s9, e9, hF⟩ := bd_some hF
  refine a_invV hZ.1 (As := [.int (10 : Int32)]) (rest := []) (hZ.2 60 0 (by decide) (by decide) Nat.one_pos) lk_X11_344 ⟨⟨by decide, by decide⟩, by decide, by decide⟩ rfl (Nat.le_of_ble_eq_true rfl) dX11_loanSize_9 (m_X11_began hZ  e9) ?_
  show AW Z l iX11_loanSize (Pq (rI R)) 0 0 12 [(0, .ref (za Z 60 0)), (1, .int a1)] [] s9
  refine a_aload_n dX11_loanSize_12 0 rfl rfl ?_
  refine a_getR hZ.1 (hZ.2 60 0 (by decide) (by decide) Nat.one_pos) fl_X11_106 rfl 0 rfl dX11_loanSize_13 ?_
  refine a_iload_n dX11_loanSize_16 1 rfl rfl ?_
  obtain ⟨b1, hF⟩ := gd_some hF
  refine a_iald hZ.1 (s9 89 0 a1.toNatClampNeg) (hZ.2 89 0 (by decide) (by decide) Nat.one_pos) rfl rfl (inb_vp b1) rfl dX11_loanSize_17 ?_
  refine a_iconst (v := (2 : Int32)) dX11_loanSize_18 (by decide) ?_
  refine a_idiv dX11_loanSize_19 (by decide) ?_
  replace hF := Option.some.inj hF
  subst hF
  exact a_iret rfl (Nat.zero_le _) (Nat.zero_le _) dX11_loanSize_20 ⟨rfl, rfl⟩
theorem m_X11_loanSize {Z : ZE} {l : Launch} (hZ : OkM Z) {a1 : Int32}  {s : St} {R : Int32 × St} (hF : F_X11_loanSize (zg Z) a1 s = some R) : Sp Z l yX11_loanSize iX11_loanSize [.ref (za Z 60 0), .int a1] s (rI R) :=
  Sp.of (by decide) rfl (Nat.le_of_ble_eq_true rfl) (w_X11_loanSize hZ  s hF)
-- X11_numberFor
def F_X11_numberFor_100 (g : Nat × Nat) (a1 : Int32) (a2 : Int32) (a3 : Int32)  (v4 : Int32) (s : St) : Option (Int32 × St) := (if v4 = (-1000000) then (some ((0 : Int32), s)) else (gd (inb v4 30) (some ((s 81 0 v4.toNatClampNeg), s))))
set_option maxRecDepth 100000 in
set_option maxHeartbeats 4000000 in
theorem w_X11_numberFor_100 {Z : ZE} {l : Launch} (hZ : OkM Z) {a1 : Int32} {a2 : Int32} {a3 : Int32}  {R : Int32 × St}  (v4 : Int32)  (s : St) (hF : F_X11_numberFor_100 (zg Z) a1 a2 a3 v4 s = some R) : AW Z l iX11_numberFor (Pq (rI R)) 0 0 100 [(0, .ref (za Z 60 0)), (4, .int v4)] [] s := by
  unfold F_X11_numberFor_100 at hF
  refine a_iload dX11_numberFor_100 1 rfl ?_
  refine a_ldc (v := (-1000000)) kw_951 dX11_numberFor_102 ?_
  refine a_icmp_ne 111 dX11_numberFor_104 (by decide) (fun c1 => ?_) (fun c1 => ?_)
  · replace hF := (if_neg c1).symm.trans hF
    refine a_aload_n dX11_numberFor_111 0 rfl rfl ?_
    refine a_getR hZ.1 (hZ.2 60 0 (by decide) (by decide) Nat.one_pos) fl_X11_82 rfl 0 rfl dX11_numberFor_112 ?_
    refine a_iload dX11_numberFor_115 1 rfl ?_
    obtain ⟨b2, hF⟩ := gd_some hF
    refine a_iald hZ.1 (s 81 0 v4.toNatClampNeg) (hZ.2 81 0 (by decide) (by decide) Nat.one_pos) rfl rfl (inb_vp b2) rfl dX11_numberFor_117 ?_
    replace hF := Option.some.inj hF
    subst hF
    exact a_iret rfl (Nat.zero_le _) (Nat.zero_le _) dX11_numberFor_118 ⟨rfl, rfl⟩
  · replace hF := (if_pos c1).symm.trans hF
    refine a_iconst (v := (0 : Int32)) dX11_numberFor_107 (by decide) ?_
    refine a_goto 118 dX11_numberFor_108 (by decide) ?_
    replace hF := Option.some.inj hF
    subst hF
    exact a_iret rfl (Nat.zero_le _) (Nat.zero_le _) dX11_numberFor_118 ⟨rfl, rfl⟩
def F_X11_numberFor_92 (g : Nat × Nat) (a1 : Int32) (a2 : Int32) (a3 : Int32) (h7_ : Int32 → Int32 → St → Option (Int32 × St)) (h100_ : Int32 → St → Option (Int32 × St)) (v5 : Int32) (x0 : Int32) (s : St) : Option (Int32 × St) := (h7_ x0 (v5 + 1) s)
set_option maxRecDepth 100000 in
set_option maxHeartbeats 4000000 in
theorem w_X11_numberFor_92 {Z : ZE} {l : Launch} (hZ : OkM Z) {a1 : Int32} {a2 : Int32} {a3 : Int32}  {R : Int32 × St} (h7_ : Int32 → Int32 → St → Option (Int32 × St)) (w7_ : ∀ (v4 : Int32) (v5 : Int32)  (s : St), h7_ v4 v5 s = some R → AW Z l iX11_numberFor (Pq (rI R)) 0 0 7 [(0, .ref (za Z 60 0)), (1, .int a1), (2, .int a2), (3, .int a3), (4, .int v4), (5, .int v5)] [] s) (h100_ : Int32 → St → Option (Int32 × St)) (w100_ : ∀ (v4 : Int32)  (s : St), h100_ v4 s = some R → AW Z l iX11_numberFor (Pq (rI R)) 0 0 100 [(0, .ref (za Z 60 0)), (4, .int v4)] [] s) (v5 : Int32) (x0 : Int32)  (s : St) (hF : F_X11_numberFor_92 (zg Z) a1 a2 a3 h7_ h100_ v5 x0 s = some R) : AW Z l iX11_numberFor (Pq (rI R)) 0 0 92 [(0, .ref (za Z 60 0)), (1, .int a1), (2, .int a2), (3, .int a3), (5, .int v5)] [.int x0] s := by
  unfold F_X11_numberFor_92 at hF
  refine a_istore [(4, .int x0), (0, .ref (za Z 60 0)), (1, .int a1), (2, .int a2), (3, .int a3), (5, .int v5)] dX11_numberFor_92 (by decide) rfl ?_
  refine a_iinc [(5, .int (v5 + 1)), (4, .int x0), (0, .ref (za Z 60 0)), (1, .int a1), (2, .int a2), (3, .int a3)] dX11_numberFor_94 5 rfl rfl (by decide) rfl ?_
  refine a_goto 7 dX11_numberFor_97 (by decide) ?_
  refine a_loc [(0, .ref (za Z 60 0)), (1, .int a1), (2, .int a2), (3, .int a3), (4, .int x0), (5, .int (v5 + 1))] [2, 3, 4, 5, 1, 0] rfl ?_
  exact w7_ x0 (v5 + 1)  _ hF
def F_X11_numberFor_90 (g : Nat × Nat) (a1 : Int32) (a2 : Int32) (a3 : Int32) (h7_ : Int32 → Int32 → St → Option (Int32 × St)) (h100_ : Int32 → St → Option (Int32 × St)) (v4 : Int32) (v5 : Int32) (s : St) : Option (Int32 × St) := (F_X11_numberFor_92 g a1 a2 a3 h7_ h100_ v5 v4 s)
set_option maxRecDepth 100000 in
set_option maxHeartbeats 4000000 in
theorem w_X11_numberFor_90 {Z : ZE} {l : Launch} (hZ : OkM Z) {a1 : Int32} {a2 : Int32} {a3 : Int32}  {R : Int32 × St} (h7_ : Int32 → Int32 → St → Option (Int32 × St)) (w7_ : ∀ (v4 : Int32) (v5 : Int32)  (s : St), h7_ v4 v5 s = some R → AW Z l iX11_numberFor (Pq (rI R)) 0 0 7 [(0, .ref (za Z 60 0)), (1, .int a1), (2, .int a2), (3, .int a3), (4, .int v4), (5, .int v5)] [] s) (h100_ : Int32 → St → Option (Int32 × St)) (w100_ : ∀ (v4 : Int32)  (s : St), h100_ v4 s = some R → AW Z l iX11_numberFor (Pq (rI R)) 0 0 100 [(0, .ref (za Z 60 0)), (4, .int v4)] [] s) (v4 : Int32) (v5 : Int32)  (s : St) (hF : F_X11_numberFor_90 (zg Z) a1 a2 a3 h7_ h100_ v4 v5 s = some R) : AW Z l iX11_numberFor (Pq (rI R)) 0 0 90 [(0, .ref (za Z 60 0)), (1, .int a1), (2, .int a2), (3, .int a3), (4, .int v4), (5, .int v5)] [] s := by
  unfold F_X11_numberFor_90 at hF
  refine a_iload dX11_numberFor_90 4 rfl ?_
  refine a_loc [(0, .ref (za Z 60 0)), (1, .int a1), (2, .int a2), (3, .int a3), (5, .int v5)] [0, 1, 2, 3, 5] rfl ?_
  exact w_X11_numberFor_92 (l := l) hZ  h7_ w7_ h100_ w100_ v5 v4  _ hF
def F_X11_numberFor_85 (g : Nat × Nat) (a1 : Int32) (a2 : Int32) (a3 : Int32) (h7_ : Int32 → Int32 → St → Option (Int32 × St)) (h100_ : Int32 → St → Option (Int32 × St)) (v5 : Int32) (s : St) : Option (Int32 × St) := (F_X11_numberFor_92 g a1 a2 a3 h7_ h100_ v5 v5 s)
set_option maxRecDepth 100000 in
set_option maxHeartbeats 4000000 in
theorem w_X11_numberFor_85 {Z : ZE} {l : Launch} (hZ : OkM Z) {a1 : Int32} {a2 : Int32} {a3 : Int32}  {R : Int32 × St} (h7_ : Int32 → Int32 → St → Option (Int32 × St)) (w7_ : ∀ (v4 : Int32) (v5 : Int32)  (s : St), h7_ v4 v5 s = some R → AW Z l iX11_numberFor (Pq (rI R)) 0 0 7 [(0, .ref (za Z 60 0)), (1, .int a1), (2, .int a2), (3, .int a3), (4, .int v4), (5, .int v5)] [] s) (h100_ : Int32 → St → Option (Int32 × St)) (w100_ : ∀ (v4 : Int32)  (s : St), h100_ v4 s = some R → AW Z l iX11_numberFor (Pq (rI R)) 0 0 100 [(0, .ref (za Z 60 0)), (4, .int v4)] [] s) (v5 : Int32)  (s : St) (hF : F_X11_numberFor_85 (zg Z) a1 a2 a3 h7_ h100_ v5 s = some R) : AW Z l iX11_numberFor (Pq (rI R)) 0 0 85 [(0, .ref (za Z 60 0)), (1, .int a1), (2, .int a2), (3, .int a3), (5, .int v5)] [] s := by
  unfold F_X11_numberFor_85 at hF
  refine a_iload dX11_numberFor_85 4 rfl ?_
  refine a_goto 92 dX11_numberFor_87 (by decide) ?_
  exact w_X11_numberFor_92 (l := l) hZ  h7_ w7_ h100_ w100_ v5 v5  _ hF
def F_X11_numberFor_54 (g : Nat × Nat) (a1 : Int32) (a2 : Int32) (a3 : Int32) (h7_ : Int32 → Int32 → St → Option (Int32 × St)) (h100_ : Int32 → St → Option (Int32 × St)) (v4 : Int32) (v5 : Int32) (x0 : Int32) (s : St) : Option (Int32 × St) := (if x0 = 0 then (F_X11_numberFor_90 g a1 a2 a3 h7_ h100_ v4 v5 s) else (if v4 = (-1000000) then (F_X11_numberFor_85 g a1 a2 a3 h7_ h100_ v5 s) else (gd (inb v5 30) (gd (inb v4 30) (if (s 78 0 v5.toNatClampNeg) < (s 78 0 v4.toNatClampNeg) then (F_X11_numberFor_90 g a1 a2 a3 h7_ h100_ v4 v5 s) else (F_X11_numberFor_85 g a1 a2 a3 h7_ h100_ v5 s))))))
set_option maxRecDepth 100000 in
set_option maxHeartbeats 4000000 in
theorem w_X11_numberFor_54 {Z : ZE} {l : Launch} (hZ : OkM Z) {a1 : Int32} {a2 : Int32} {a3 : Int32}  {R : Int32 × St} (h7_ : Int32 → Int32 → St → Option (Int32 × St)) (w7_ : ∀ (v4 : Int32) (v5 : Int32)  (s : St), h7_ v4 v5 s = some R → AW Z l iX11_numberFor (Pq (rI R)) 0 0 7 [(0, .ref (za Z 60 0)), (1, .int a1), (2, .int a2), (3, .int a3), (4, .int v4), (5, .int v5)] [] s) (h100_ : Int32 → St → Option (Int32 × St)) (w100_ : ∀ (v4 : Int32)  (s : St), h100_ v4 s = some R → AW Z l iX11_numberFor (Pq (rI R)) 0 0 100 [(0, .ref (za Z 60 0)), (4, .int v4)] [] s) (v4 : Int32) (v5 : Int32) (x0 : Int32)  (s : St) (hF : F_X11_numberFor_54 (zg Z) a1 a2 a3 h7_ h100_ v4 v5 x0 s = some R) : AW Z l iX11_numberFor (Pq (rI R)) 0 0 54 [(0, .ref (za Z 60 0)), (1, .int a1), (2, .int a2), (3, .int a3), (4, .int v4), (5, .int v5)] [.int x0] s := by
  unfold F_X11_numberFor_54 at hF
  refine a_istore [(6, .int x0), (0, .ref (za Z 60 0)), (1, .int a1), (2, .int a2), (3, .int a3), (4, .int v4), (5, .int v5)] dX11_numberFor_54 (by decide) rfl ?_
  refine a_iload dX11_numberFor_56 0 rfl ?_
  refine a_if_eq 90 dX11_numberFor_58 (by decide) (fun c1 => ?_) (fun c1 => ?_)
  · replace hF := (if_pos c1).symm.trans hF
    refine a_loc [(0, .ref (za Z 60 0)), (1, .int a1), (2, .int a2), (3, .int a3), (4, .int v4), (5, .int v5)] [1, 2, 3, 4, 5, 6] rfl ?_
    exact w_X11_numberFor_90 (l := l) hZ  h7_ w7_ h100_ w100_ v4 v5  _ hF
  · replace hF := (if_neg c1).symm.trans hF
    refine a_iload dX11_numberFor_61 5 rfl ?_
    refine a_ldc (v := (-1000000)) kw_951 dX11_numberFor_63 ?_
    refine a_icmp_eq 85 dX11_numberFor_65 (by decide) (fun c2 => ?_) (fun c2 => ?_)
    · replace hF := (if_pos c2).symm.trans hF
      refine a_loc [(0, .ref (za Z 60 0)), (1, .int a1), (2, .int a2), (3, .int a3), (5, .int v5)] [1, 2, 3, 4, 6] rfl ?_
      exact w_X11_numberFor_85 (l := l) hZ  h7_ w7_ h100_ w100_ v5  _ hF
    · replace hF := (if_neg c2).symm.trans hF
      refine a_aload_n dX11_numberFor_68 1 rfl rfl ?_
      refine a_getR hZ.1 (hZ.2 60 0 (by decide) (by decide) Nat.one_pos) fl_X11_73 rfl 0 rfl dX11_numberFor_69 ?_
      refine a_iload dX11_numberFor_72 6 rfl ?_
      obtain ⟨b3, hF⟩ := gd_some hF
      refine a_iald hZ.1 (s 78 0 v5.toNatClampNeg) (hZ.2 78 0 (by decide) (by decide) Nat.one_pos) rfl rfl (inb_vp b3) rfl dX11_numberFor_74 ?_
      refine a_aload_n dX11_numberFor_75 1 rfl rfl ?_
      refine a_getR hZ.1 (hZ.2 60 0 (by decide) (by decide) Nat.one_pos) fl_X11_73 rfl 0 rfl dX11_numberFor_76 ?_
      refine a_iload dX11_numberFor_79 5 rfl ?_
      obtain ⟨b4, hF⟩ := gd_some hF
      refine a_iald hZ.1 (s 78 0 v4.toNatClampNeg) (hZ.2 78 0 (by decide) (by decide) Nat.one_pos) rfl rfl (inb_vp b4) rfl dX11_numberFor_81 ?_
      refine a_icmp_lt 90 dX11_numberFor_82 (by decide) (fun c5 => ?_) (fun c5 => ?_)
      · replace hF := (if_pos c5).symm.trans hF
        refine a_loc [(0, .ref (za Z 60 0)), (1, .int a1), (2, .int a2), (3, .int a3), (4, .int v4), (5, .int v5)] [1, 2, 3, 4, 5, 6] rfl ?_
        exact w_X11_numberFor_90 (l := l) hZ  h7_ w7_ h100_ w100_ v4 v5  _ hF
      · replace hF := (if_neg c5).symm.trans hF
        refine a_loc [(0, .ref (za Z 60 0)), (1, .int a1), (2, .int a2), (3, .int a3), (5, .int v5)] [1, 2, 3, 4, 6] rfl ?_
        exact w_X11_numberFor_85 (l := l) hZ  h7_ w7_ h100_ w100_ v5  _ hF
def F_X11_numberFor_53 (g : Nat × Nat) (a1 : Int32) (a2 : Int32) (a3 : Int32) (h7_ : Int32 → Int32 → St → Option (Int32 × St)) (h100_ : Int32 → St → Option (Int32 × St)) (v4 : Int32) (v5 : Int32) (s : St) : Option (Int32 × St) := (F_X11_numberFor_54 g a1 a2 a3 h7_ h100_ v4 v5 (0 : Int32) s)
set_option maxRecDepth 100000 in
set_option maxHeartbeats 4000000 in
theorem w_X11_numberFor_53 {Z : ZE} {l : Launch} (hZ : OkM Z) {a1 : Int32} {a2 : Int32} {a3 : Int32}  {R : Int32 × St} (h7_ : Int32 → Int32 → St → Option (Int32 × St)) (w7_ : ∀ (v4 : Int32) (v5 : Int32)  (s : St), h7_ v4 v5 s = some R → AW Z l iX11_numberFor (Pq (rI R)) 0 0 7 [(0, .ref (za Z 60 0)), (1, .int a1), (2, .int a2), (3, .int a3), (4, .int v4), (5, .int v5)] [] s) (h100_ : Int32 → St → Option (Int32 × St)) (w100_ : ∀ (v4 : Int32)  (s : St), h100_ v4 s = some R → AW Z l iX11_numberFor (Pq (rI R)) 0 0 100 [(0, .ref (za Z 60 0)), (4, .int v4)] [] s) (v4 : Int32) (v5 : Int32)  (s : St) (hF : F_X11_numberFor_53 (zg Z) a1 a2 a3 h7_ h100_ v4 v5 s = some R) : AW Z l iX11_numberFor (Pq (rI R)) 0 0 53 [(0, .ref (za Z 60 0)), (1, .int a1), (2, .int a2), (3, .int a3), (4, .int v4), (5, .int v5)] [] s := by
  unfold F_X11_numberFor_53 at hF
  refine a_iconst (v := (0 : Int32)) dX11_numberFor_53 (by decide) ?_
  exact w_X11_numberFor_54 (l := l) hZ  h7_ w7_ h100_ w100_ v4 v5 (0 : Int32)  _ hF
def F_X11_numberFor_7 (g : Nat × Nat) (a1 : Int32) (a2 : Int32) (a3 : Int32) (h100_ : Int32 → St → Option (Int32 × St)) : Nat → Int32 → Int32 → St → Option (Int32 × St)
  | 0, _, _, _ => none
  | n_ + 1, v4, v5, s => (if (s 60 0 24) ≤ v5 then (h100_ v4 s) else (gd (inb v5 30) (if (s 79 0 v5.toNatClampNeg) = a2 then (gd (inb v5 30) (if (s 80 0 v5.toNatClampNeg) = a3 then (gd (inb v5 30) (if a1 < (s 78 0 v5.toNatClampNeg) then (F_X11_numberFor_53 g a1 a2 a3 (F_X11_numberFor_7 g a1 a2 a3 h100_ n_) h100_ v4 v5 s) else (F_X11_numberFor_54 g a1 a2 a3 (F_X11_numberFor_7 g a1 a2 a3 h100_ n_) h100_ v4 v5 (1 : Int32) s))) else (F_X11_numberFor_53 g a1 a2 a3 (F_X11_numberFor_7 g a1 a2 a3 h100_ n_) h100_ v4 v5 s))) else (F_X11_numberFor_53 g a1 a2 a3 (F_X11_numberFor_7 g a1 a2 a3 h100_ n_) h100_ v4 v5 s))))
set_option maxRecDepth 100000 in
set_option maxHeartbeats 4000000 in
theorem w_X11_numberFor_7 {Z : ZE} {l : Launch} (hZ : OkM Z) {a1 : Int32} {a2 : Int32} {a3 : Int32}  {R : Int32 × St} (h100_ : Int32 → St → Option (Int32 × St)) (w100_ : ∀ (v4 : Int32)  (s : St), h100_ v4 s = some R → AW Z l iX11_numberFor (Pq (rI R)) 0 0 100 [(0, .ref (za Z 60 0)), (4, .int v4)] [] s) : ∀ (n_ : Nat) (v4 : Int32) (v5 : Int32)  (s : St), F_X11_numberFor_7 (zg Z) a1 a2 a3 h100_ n_ v4 v5 s = some R → AW Z l iX11_numberFor (Pq (rI R)) 0 0 7 [(0, .ref (za Z 60 0)), (1, .int a1), (2, .int a2), (3, .int a3), (4, .int v4), (5, .int v5)] [] s := by
  intro n_
  induction n_ with
  | zero =>
    intro v4 v5 s hF
    exact absurd hF (by rw [F_X11_numberFor_7]; exact fun q => by cases q)
  | succ n_ w7_ =>
    intro v4 v5 s hF
    rw [F_X11_numberFor_7] at hF
    refine a_iload dX11_numberFor_7 5 rfl ?_
    refine a_aload_n dX11_numberFor_9 0 rfl rfl ?_
    refine a_getI hZ.1 (s 60 0 24) (hZ.2 60 0 (by decide) (by decide) Nat.one_pos) fl_X11_286 rfl rfl dX11_numberFor_10 ?_
    refine a_icmp_ge 100 dX11_numberFor_13 (by decide) (fun c1 => ?_) (fun c1 => ?_)
    · replace hF := (if_pos c1).symm.trans hF
      refine a_loc [(0, .ref (za Z 60 0)), (4, .int v4)] [0, 4] rfl ?_
      exact w100_ v4  _ hF
    · replace hF := (if_neg c1).symm.trans hF
      refine a_aload_n dX11_numberFor_16 0 rfl rfl ?_
      refine a_getR hZ.1 (hZ.2 60 0 (by decide) (by decide) Nat.one_pos) fl_X11_76 rfl 0 rfl dX11_numberFor_17 ?_
      refine a_iload dX11_numberFor_20 5 rfl ?_
      obtain ⟨b2, hF⟩ := gd_some hF
      refine a_iald hZ.1 (s 79 0 v5.toNatClampNeg) (hZ.2 79 0 (by decide) (by decide) Nat.one_pos) rfl rfl (inb_vp b2) rfl dX11_numberFor_22 ?_
      refine a_iload_n dX11_numberFor_23 2 rfl rfl ?_
      refine a_icmp_ne 53 dX11_numberFor_24 (by decide) (fun c3 => ?_) (fun c3 => ?_)
      · replace hF := (if_neg c3).symm.trans hF
        exact w_X11_numberFor_53 (l := l) hZ  (F_X11_numberFor_7 (zg Z) a1 a2 a3 h100_ n_) w7_ h100_ w100_ v4 v5  _ hF
      · replace hF := (if_pos c3).symm.trans hF
        refine a_aload_n dX11_numberFor_27 0 rfl rfl ?_
        refine a_getR hZ.1 (hZ.2 60 0 (by decide) (by decide) Nat.one_pos) fl_X11_79 rfl 0 rfl dX11_numberFor_28 ?_
        refine a_iload dX11_numberFor_31 5 rfl ?_
        obtain ⟨b4, hF⟩ := gd_some hF
        refine a_iald hZ.1 (s 80 0 v5.toNatClampNeg) (hZ.2 80 0 (by decide) (by decide) Nat.one_pos) rfl rfl (inb_vp b4) rfl dX11_numberFor_33 ?_
        refine a_iload_n dX11_numberFor_34 3 rfl rfl ?_
        refine a_icmp_ne 53 dX11_numberFor_35 (by decide) (fun c5 => ?_) (fun c5 => ?_)
        · replace hF := (if_neg c5).symm.trans hF
          exact w_X11_numberFor_53 (l := l) hZ  (F_X11_numberFor_7 (zg Z) a1 a2 a3 h100_ n_) w7_ h100_ w100_ v4 v5  _ hF
        · replace hF := (if_pos c5).symm.trans hF
          refine a_aload_n dX11_numberFor_38 0 rfl rfl ?_
          refine a_getR hZ.1 (hZ.2 60 0 (by decide) (by decide) Nat.one_pos) fl_X11_73 rfl 0 rfl dX11_numberFor_39 ?_
          refine a_iload dX11_numberFor_42 5 rfl ?_
          obtain ⟨b6, hF⟩ := gd_some hF
          refine a_iald hZ.1 (s 78 0 v5.toNatClampNeg) (hZ.2 78 0 (by decide) (by decide) Nat.one_pos) rfl rfl (inb_vp b6) rfl dX11_numberFor_44 ?_
          refine a_iload_n dX11_numberFor_45 1 rfl rfl ?_
          refine a_icmp_gt 53 dX11_numberFor_46 (by decide) (fun c7 => ?_) (fun c7 => ?_)
          · replace hF := (if_pos c7).symm.trans hF
            exact w_X11_numberFor_53 (l := l) hZ  (F_X11_numberFor_7 (zg Z) a1 a2 a3 h100_ n_) w7_ h100_ w100_ v4 v5  _ hF
          · replace hF := (if_neg c7).symm.trans hF
            refine a_iconst (v := (1 : Int32)) dX11_numberFor_49 (by decide) ?_
            refine a_goto 54 dX11_numberFor_50 (by decide) ?_
            exact w_X11_numberFor_54 (l := l) hZ  (F_X11_numberFor_7 (zg Z) a1 a2 a3 h100_ n_) w7_ h100_ w100_ v4 v5 (1 : Int32)  _ hF
def F_X11_numberFor (g : Nat × Nat) (a1 : Int32) (a2 : Int32) (a3 : Int32)   (s : St) : Option (Int32 × St) := ((F_X11_numberFor_7 g a1 a2 a3 (F_X11_numberFor_100 g a1 a2 a3 ) fu) (-1000000) (0 : Int32) s)
set_option maxRecDepth 100000 in
set_option maxHeartbeats 4000000 in
theorem w_X11_numberFor {Z : ZE} {l : Launch} (hZ : OkM Z) {a1 : Int32} {a2 : Int32} {a3 : Int32}  {R : Int32 × St}    (s : St) (hF : F_X11_numberFor (zg Z) a1 a2 a3  s = some R) : AW Z l iX11_numberFor (Pq (rI R)) 0 0 0 [(0, .ref (za Z 60 0)), (1, .int a1), (2, .int a2), (3, .int a3)] [] s := by
  unfold F_X11_numberFor at hF
  refine a_ldc (v := (-1000000)) kw_951 dX11_numberFor_0 ?_
  refine a_istore [(4, .int (-1000000)), (0, .ref (za Z 60 0)), (1, .int a1), (2, .int a2), (3, .int a3)] dX11_numberFor_2 (by decide) rfl ?_
  refine a_iconst (v := (0 : Int32)) dX11_numberFor_4 (by decide) ?_
  refine a_istore [(5, .int (0 : Int32)), (4, .int (-1000000)), (0, .ref (za Z 60 0)), (1, .int a1), (2, .int a2), (3, .int a3)] dX11_numberFor_5 (by decide) rfl ?_
  refine a_loc [(0, .ref (za Z 60 0)), (1, .int a1), (2, .int a2), (3, .int a3), (4, .int (-1000000)), (5, .int (0 : Int32))] [2, 3, 4, 5, 1, 0] rfl ?_
  exact w_X11_numberFor_7 (l := l) hZ  (F_X11_numberFor_100 (zg Z) a1 a2 a3 ) (w_X11_numberFor_100 (l := l) hZ  ) fu (-1000000) (0 : Int32)  _ hF
theorem m_X11_numberFor {Z : ZE} {l : Launch} (hZ : OkM Z) {a1 : Int32} {a2 : Int32} {a3 : Int32}  {s : St} {R : Int32 × St} (hF : F_X11_numberFor (zg Z) a1 a2 a3 s = some R) : Sp Z l yX11_numberFor iX11_numberFor [.ref (za Z 60 0), .int a1, .int a2, .int a3] s (rI R) :=
  Sp.of (by decide) rfl (Nat.le_of_ble_eq_true rfl) (w_X11_numberFor hZ  s hF)
-- X11_markOf
def F_X11_markOf_91 (g : Nat × Nat) (a1 : Int32)  (v2 : Int32) (x0 : Int32) (x1 : Int32) (s : St) : Option (Int32 × St) := (if v2 = (5 : Int32) then (bd (F_X11_loanSize g a1 s) (fun r101 s101 => (some (((x0 + x1) + r101), s101)))) else (some ((x0 + x1), s)))
set_option maxRecDepth 100000 in
set_option maxHeartbeats 4000000 in
theorem w_X11_markOf_91 {Z : ZE} {l : Launch} (hZ : OkM Z) {a1 : Int32}  {R : Int32 × St}  (v2 : Int32) (x0 : Int32) (x1 : Int32)  (s : St) (hF : F_X11_markOf_91 (zg Z) a1 v2 x0 x1 s = some R) : AW Z l iX11_markOf (Pq (rI R)) 0 0 91 [(0, .ref (za Z 60 0)), (1, .int a1), (2, .int v2)] [.int x1, .int x0] s := by
  unfold F_X11_markOf_91 at hF
  refine a_iadd dX11_markOf_91 ?_
  refine a_istore_n [(3, .int (x0 + x1)), (0, .ref (za Z 60 0)), (1, .int a1), (2, .int v2)] dX11_markOf_92 rfl (by decide) rfl ?_
  refine a_iload_n dX11_markOf_93 3 rfl rfl ?_
  refine a_iconst (v := (5 : Int32)) dX11_markOf_94 (by decide) ?_
  refine a_icmp_ne 108 dX11_markOf_95 (by decide) (fun c1 => ?_) (fun c1 => ?_)
  · replace hF := (if_neg c1).symm.trans hF
    refine a_iload_n dX11_markOf_108 0 rfl rfl ?_
    replace hF := Option.some.inj hF
    subst hF
    exact a_iret rfl (Nat.zero_le _) (Nat.zero_le _) dX11_markOf_109 ⟨rfl, rfl⟩
  · replace hF := (if_pos c1).symm.trans hF
    refine a_iload_n dX11_markOf_98 0 rfl rfl ?_
    refine a_aload_n dX11_markOf_99 1 rfl rfl ?_
    refine a_iload_n dX11_markOf_100 2 rfl rfl ?_
    obtain ⟨r101, s101, e101, hF⟩ := bd_some hF
    refine a_invV hZ.1 (As := [.int a1]) (rest := [.int (x0 + x1)]) (hZ.2 60 0 (by decide) (by decide) Nat.one_pos) lk_X11_347 ⟨⟨by decide, by decide⟩, by decide, by decide⟩ rfl (Nat.le_of_ble_eq_true rfl) dX11_markOf_101 (m_X11_loanSize hZ  e101) ?_
    show AW Z l iX11_markOf (Pq (rI R)) 0 0 104 [(3, .int (x0 + x1)), (0, .ref (za Z 60 0)), (1, .int a1), (2, .int v2)] [.int r101, .int (x0 + x1)] s101
    refine a_iadd dX11_markOf_104 ?_
    refine a_goto 109 dX11_markOf_105 (by decide) ?_
    replace hF := Option.some.inj hF
    subst hF
    exact a_iret rfl (Nat.zero_le _) (Nat.zero_le _) dX11_markOf_109 ⟨rfl, rfl⟩
def F_X11_markOf_46 (g : Nat × Nat) (a1 : Int32)  (v2 : Int32) (s : St) : Option (Int32 × St) := (bd (F_X11_began g (20 : Int32) s) (fun r49 s49 => (bd (F_X11_isOf g v2 (2 : Int32) s49) (fun r58 s58 => (if r58 = 0 then (bd (F_X11_isOf g v2 (4 : Int32) s58) (fun r71 s71 => (if r71 = 0 then (F_X11_markOf_91 g a1  v2 (s49 60 0 10) (0 : Int32) s71) else (bd (F_X11_numberFor g (s71 60 0 10) (1 : Int32) (0 : Int32) s71) (fun r84 s84 => (F_X11_markOf_91 g a1  v2 (s49 60 0 10) r84 s84)))))) else (F_X11_markOf_91 g a1  v2 (s49 60 0 10) (100 : Int32) s58))))))
set_option maxRecDepth 100000 in
set_option maxHeartbeats 4000000 in
theorem w_X11_markOf_46 {Z : ZE} {l : Launch} (hZ : OkM Z) {a1 : Int32}  {R : Int32 × St}  (v2 : Int32)  (s : St) (hF : F_X11_markOf_46 (zg Z) a1 v2 s = some R) : AW Z l iX11_markOf (Pq (rI R)) 0 0 46 [(0, .ref (za Z 60 0)), (1, .int a1), (2, .int v2)] [] s := by
  unfold F_X11_markOf_46 at hF
  refine a_aload_n dX11_markOf_46 0 rfl rfl ?_
  refine a_bipush (v := (20 : Int32)) dX11_markOf_47 (by decide) ?_
  obtain ⟨r49, s49, e49, hF⟩ := bd_some hF
  refine a_invV hZ.1 (As := [.int (20 : Int32)]) (rest := []) (hZ.2 60 0 (by decide) (by decide) Nat.one_pos) lk_X11_344 ⟨⟨by decide, by decide⟩, by decide, by decide⟩ rfl (Nat.le_of_ble_eq_true rfl) dX11_markOf_49 (m_X11_began hZ  e49) ?_
  show AW Z l iX11_markOf (Pq (rI R)) 0 0 52 [(0, .ref (za Z 60 0)), (1, .int a1), (2, .int v2)] [] s49
  refine a_aload_n dX11_markOf_52 0 rfl rfl ?_
  refine a_getI hZ.1 (s49 60 0 10) (hZ.2 60 0 (by decide) (by decide) Nat.one_pos) fl_X11_188 rfl rfl dX11_markOf_53 ?_
  refine a_iload_n dX11_markOf_56 2 rfl rfl ?_
  refine a_iconst (v := (2 : Int32)) dX11_markOf_57 (by decide) ?_
  obtain ⟨r58, s58, e58, hF⟩ := bd_some hF
  refine a_invS hZ.1 (As := [.int v2, .int (2 : Int32)]) (rest := [.int (s49 60 0 10)]) lk_X11_337 ⟨⟨by decide, by decide⟩, by decide, by decide⟩ rfl (Nat.le_of_ble_eq_true rfl) dX11_markOf_58 (m_X11_isOf hZ  e58) ?_
  show AW Z l iX11_markOf (Pq (rI R)) 0 0 61 [(0, .ref (za Z 60 0)), (1, .int a1), (2, .int v2)] [.int r58, .int (s49 60 0 10)] s58
  refine a_if_eq 69 dX11_markOf_61 (by decide) (fun c1 => ?_) (fun c1 => ?_)
  · replace hF := (if_pos c1).symm.trans hF
    refine a_iload_n dX11_markOf_69 2 rfl rfl ?_
    refine a_iconst (v := (4 : Int32)) dX11_markOf_70 (by decide) ?_
    obtain ⟨r71, s71, e71, hF⟩ := bd_some hF
    refine a_invS hZ.1 (As := [.int v2, .int (4 : Int32)]) (rest := [.int (s49 60 0 10)]) lk_X11_337 ⟨⟨by decide, by decide⟩, by decide, by decide⟩ rfl (Nat.le_of_ble_eq_true rfl) dX11_markOf_71 (m_X11_isOf hZ  e71) ?_
    show AW Z l iX11_markOf (Pq (rI R)) 0 0 74 [(0, .ref (za Z 60 0)), (1, .int a1), (2, .int v2)] [.int r71, .int (s49 60 0 10)] s71
    refine a_if_eq 90 dX11_markOf_74 (by decide) (fun c2 => ?_) (fun c2 => ?_)
    · replace hF := (if_pos c2).symm.trans hF
      refine a_iconst (v := (0 : Int32)) dX11_markOf_90 (by decide) ?_
      exact w_X11_markOf_91 (l := l) hZ   v2 (s49 60 0 10) (0 : Int32)  _ hF
    · replace hF := (if_neg c2).symm.trans hF
      refine a_aload_n dX11_markOf_77 0 rfl rfl ?_
      refine a_aload_n dX11_markOf_78 0 rfl rfl ?_
      refine a_getI hZ.1 (s71 60 0 10) (hZ.2 60 0 (by decide) (by decide) Nat.one_pos) fl_X11_188 rfl rfl dX11_markOf_79 ?_
      refine a_iconst (v := (1 : Int32)) dX11_markOf_82 (by decide) ?_
      refine a_iconst (v := (0 : Int32)) dX11_markOf_83 (by decide) ?_
      obtain ⟨r84, s84, e84, hF⟩ := bd_some hF
      refine a_invV hZ.1 (As := [.int (s71 60 0 10), .int (1 : Int32), .int (0 : Int32)]) (rest := [.int (s49 60 0 10)]) (hZ.2 60 0 (by decide) (by decide) Nat.one_pos) lk_X11_298 ⟨⟨by decide, by decide⟩, by decide, by decide⟩ rfl (Nat.le_of_ble_eq_true rfl) dX11_markOf_84 (m_X11_numberFor hZ  e84) ?_
      show AW Z l iX11_markOf (Pq (rI R)) 0 0 87 [(0, .ref (za Z 60 0)), (1, .int a1), (2, .int v2)] [.int r84, .int (s49 60 0 10)] s84
      refine a_goto 91 dX11_markOf_87 (by decide) ?_
      exact w_X11_markOf_91 (l := l) hZ   v2 (s49 60 0 10) r84  _ hF
  · replace hF := (if_neg c1).symm.trans hF
    refine a_bipush (v := (100 : Int32)) dX11_markOf_64 (by decide) ?_
    refine a_goto 91 dX11_markOf_66 (by decide) ?_
    exact w_X11_markOf_91 (l := l) hZ   v2 (s49 60 0 10) (100 : Int32)  _ hF
def F_X11_markOf_32 (g : Nat × Nat) (a1 : Int32)  (v2 : Int32) (s : St) : Option (Int32 × St) := (bd (F_X11_isOf g v2 (2 : Int32) s) (fun r34 s34 => (if r34 = 0 then (F_X11_markOf_46 g a1  v2 s34) else (bd (F_X11_began g (21 : Int32) s34) (fun r43 s43 => (F_X11_markOf_46 g a1  v2 s43))))))
set_option maxRecDepth 100000 in
set_option maxHeartbeats 4000000 in
theorem w_X11_markOf_32 {Z : ZE} {l : Launch} (hZ : OkM Z) {a1 : Int32}  {R : Int32 × St}  (v2 : Int32)  (s : St) (hF : F_X11_markOf_32 (zg Z) a1 v2 s = some R) : AW Z l iX11_markOf (Pq (rI R)) 0 0 32 [(0, .ref (za Z 60 0)), (1, .int a1), (2, .int v2)] [] s := by
  unfold F_X11_markOf_32 at hF
  refine a_iload_n dX11_markOf_32 2 rfl rfl ?_
  refine a_iconst (v := (2 : Int32)) dX11_markOf_33 (by decide) ?_
  obtain ⟨r34, s34, e34, hF⟩ := bd_some hF
  refine a_invS hZ.1 (As := [.int v2, .int (2 : Int32)]) (rest := []) lk_X11_337 ⟨⟨by decide, by decide⟩, by decide, by decide⟩ rfl (Nat.le_of_ble_eq_true rfl) dX11_markOf_34 (m_X11_isOf hZ  e34) ?_
  show AW Z l iX11_markOf (Pq (rI R)) 0 0 37 [(0, .ref (za Z 60 0)), (1, .int a1), (2, .int v2)] [.int r34] s34
  refine a_if_eq 46 dX11_markOf_37 (by decide) (fun c1 => ?_) (fun c1 => ?_)
  · replace hF := (if_pos c1).symm.trans hF
    exact w_X11_markOf_46 (l := l) hZ   v2  _ hF
  · replace hF := (if_neg c1).symm.trans hF
    refine a_aload_n dX11_markOf_40 0 rfl rfl ?_
    refine a_bipush (v := (21 : Int32)) dX11_markOf_41 (by decide) ?_
    obtain ⟨r43, s43, e43, hF⟩ := bd_some hF
    refine a_invV hZ.1 (As := [.int (21 : Int32)]) (rest := []) (hZ.2 60 0 (by decide) (by decide) Nat.one_pos) lk_X11_344 ⟨⟨by decide, by decide⟩, by decide, by decide⟩ rfl (Nat.le_of_ble_eq_true rfl) dX11_markOf_43 (m_X11_began hZ  e43) ?_
    show AW Z l iX11_markOf (Pq (rI R)) 0 0 46 [(0, .ref (za Z 60 0)), (1, .int a1), (2, .int v2)] [] s43
    exact w_X11_markOf_46 (l := l) hZ   v2  _ hF
def F_X11_markOf_18 (g : Nat × Nat) (a1 : Int32)  (v2 : Int32) (s : St) : Option (Int32 × St) := (bd (F_X11_isOf g v2 (4 : Int32) s) (fun r20 s20 => (if r20 = 0 then (F_X11_markOf_32 g a1  v2 s20) else (bd (F_X11_began g (22 : Int32) s20) (fun r29 s29 => (F_X11_markOf_32 g a1  v2 s29))))))
set_option maxRecDepth 100000 in
set_option maxHeartbeats 4000000 in
theorem w_X11_markOf_18 {Z : ZE} {l : Launch} (hZ : OkM Z) {a1 : Int32}  {R : Int32 × St}  (v2 : Int32)  (s : St) (hF : F_X11_markOf_18 (zg Z) a1 v2 s = some R) : AW Z l iX11_markOf (Pq (rI R)) 0 0 18 [(0, .ref (za Z 60 0)), (1, .int a1), (2, .int v2)] [] s := by
  unfold F_X11_markOf_18 at hF
  refine a_iload_n dX11_markOf_18 2 rfl rfl ?_
  refine a_iconst (v := (4 : Int32)) dX11_markOf_19 (by decide) ?_
  obtain ⟨r20, s20, e20, hF⟩ := bd_some hF
  refine a_invS hZ.1 (As := [.int v2, .int (4 : Int32)]) (rest := []) lk_X11_337 ⟨⟨by decide, by decide⟩, by decide, by decide⟩ rfl (Nat.le_of_ble_eq_true rfl) dX11_markOf_20 (m_X11_isOf hZ  e20) ?_
  show AW Z l iX11_markOf (Pq (rI R)) 0 0 23 [(0, .ref (za Z 60 0)), (1, .int a1), (2, .int v2)] [.int r20] s20
  refine a_if_eq 32 dX11_markOf_23 (by decide) (fun c1 => ?_) (fun c1 => ?_)
  · replace hF := (if_pos c1).symm.trans hF
    exact w_X11_markOf_32 (l := l) hZ   v2  _ hF
  · replace hF := (if_neg c1).symm.trans hF
    refine a_aload_n dX11_markOf_26 0 rfl rfl ?_
    refine a_bipush (v := (22 : Int32)) dX11_markOf_27 (by decide) ?_
    obtain ⟨r29, s29, e29, hF⟩ := bd_some hF
    refine a_invV hZ.1 (As := [.int (22 : Int32)]) (rest := []) (hZ.2 60 0 (by decide) (by decide) Nat.one_pos) lk_X11_344 ⟨⟨by decide, by decide⟩, by decide, by decide⟩ rfl (Nat.le_of_ble_eq_true rfl) dX11_markOf_29 (m_X11_began hZ  e29) ?_
    show AW Z l iX11_markOf (Pq (rI R)) 0 0 32 [(0, .ref (za Z 60 0)), (1, .int a1), (2, .int v2)] [] s29
    exact w_X11_markOf_32 (l := l) hZ   v2  _ hF
def F_X11_markOf (g : Nat × Nat) (a1 : Int32)   (s : St) : Option (Int32 × St) := (gd (inb a1 16) (if (s 88 0 a1.toNatClampNeg) = (5 : Int32) then (bd (F_X11_began g (23 : Int32) s) (fun r15 s15 => (F_X11_markOf_18 g a1  (s 88 0 a1.toNatClampNeg) s15))) else (F_X11_markOf_18 g a1  (s 88 0 a1.toNatClampNeg) s)))
set_option maxRecDepth 100000 in
set_option maxHeartbeats 4000000 in
theorem w_X11_markOf {Z : ZE} {l : Launch} (hZ : OkM Z) {a1 : Int32}  {R : Int32 × St}    (s : St) (hF : F_X11_markOf (zg Z) a1  s = some R) : AW Z l iX11_markOf (Pq (rI R)) 0 0 0 [(0, .ref (za Z 60 0)), (1, .int a1)] [] s := by
  unfold F_X11_markOf at hF
  refine a_aload_n dX11_markOf_0 0 rfl rfl ?_
  refine a_getR hZ.1 (hZ.2 60 0 (by decide) (by decide) Nat.one_pos) fl_X11_103 rfl 0 rfl dX11_markOf_1 ?_
  refine a_iload_n dX11_markOf_4 1 rfl rfl ?_
  obtain ⟨b1, hF⟩ := gd_some hF
  refine a_iald hZ.1 (s 88 0 a1.toNatClampNeg) (hZ.2 88 0 (by decide) (by decide) Nat.one_pos) rfl rfl (inb_vp b1) rfl dX11_markOf_5 ?_
  refine a_istore_n [(2, .int (s 88 0 a1.toNatClampNeg)), (0, .ref (za Z 60 0)), (1, .int a1)] dX11_markOf_6 rfl (by decide) rfl ?_
  refine a_iload_n dX11_markOf_7 0 rfl rfl ?_
  refine a_iconst (v := (5 : Int32)) dX11_markOf_8 (by decide) ?_
  refine a_icmp_ne 18 dX11_markOf_9 (by decide) (fun c2 => ?_) (fun c2 => ?_)
  · replace hF := (if_neg c2).symm.trans hF
    refine a_loc [(0, .ref (za Z 60 0)), (1, .int a1), (2, .int (s 88 0 a1.toNatClampNeg))] [1, 2, 0] rfl ?_
    exact w_X11_markOf_18 (l := l) hZ   (s 88 0 a1.toNatClampNeg)  _ hF
  · replace hF := (if_pos c2).symm.trans hF
    refine a_aload_n dX11_markOf_12 1 rfl rfl ?_
    refine a_bipush (v := (23 : Int32)) dX11_markOf_13 (by decide) ?_
    obtain ⟨r15, s15, e15, hF⟩ := bd_some hF
    refine a_invV hZ.1 (As := [.int (23 : Int32)]) (rest := []) (hZ.2 60 0 (by decide) (by decide) Nat.one_pos) lk_X11_344 ⟨⟨by decide, by decide⟩, by decide, by decide⟩ rfl (Nat.le_of_ble_eq_true rfl) dX11_markOf_15 (m_X11_began hZ  e15) ?_
    show AW Z l iX11_markOf (Pq (rI R)) 0 0 18 [(2, .int (s 88 0 a1.toNatClampNeg)), (0, .ref (za Z 60 0)), (1, .int a1)] [] s15
    refine a_loc [(0, .ref (za Z 60 0)), (1, .int a1), (2, .int (s 88 0 a1.toNatClampNeg))] [1, 2, 0] rfl ?_
    exact w_X11_markOf_18 (l := l) hZ   (s 88 0 a1.toNatClampNeg)  _ hF
theorem m_X11_markOf {Z : ZE} {l : Launch} (hZ : OkM Z) {a1 : Int32}  {s : St} {R : Int32 × St} (hF : F_X11_markOf (zg Z) a1 s = some R) : Sp Z l yX11_markOf iX11_markOf [.ref (za Z 60 0), .int a1] s (rI R) :=
  Sp.of (by decide) rfl (Nat.le_of_ble_eq_true rfl) (w_X11_markOf hZ  s hF)
-- X11_sizeBy
def F_X11_sizeBy_112 (g : Nat × Nat) (a1 : Int32)  (v2 : Int32) (x0 : Int32) (x1 : Int32) (s : St) : Option (Int32 × St) := (if v2 = (3 : Int32) then (some (((2 : Int32) * (x0 + x1)), s)) else (some ((x0 + x1), s)))
set_option maxRecDepth 100000 in
set_option maxHeartbeats 4000000 in
theorem w_X11_sizeBy_112 {Z : ZE} {l : Launch} (hZ : OkM Z) {a1 : Int32}  {R : Int32 × St}  (v2 : Int32) (x0 : Int32) (x1 : Int32)  (s : St) (hF : F_X11_sizeBy_112 (zg Z) a1 v2 x0 x1 s = some R) : AW Z l iX11_sizeBy (Pq (rI R)) 0 0 112 [(2, .int v2)] [.int x1, .int x0] s := by
  unfold F_X11_sizeBy_112 at hF
  refine a_iadd dX11_sizeBy_112 ?_
  refine a_istore_n [(3, .int (x0 + x1)), (2, .int v2)] dX11_sizeBy_113 rfl (by decide) rfl ?_
  refine a_iload_n dX11_sizeBy_114 1 rfl rfl ?_
  refine a_iconst (v := (3 : Int32)) dX11_sizeBy_115 (by decide) ?_
  refine a_icmp_ne 125 dX11_sizeBy_116 (by decide) (fun c1 => ?_) (fun c1 => ?_)
  · replace hF := (if_neg c1).symm.trans hF
    refine a_iload_n dX11_sizeBy_125 0 rfl rfl ?_
    replace hF := Option.some.inj hF
    subst hF
    exact a_iret rfl (Nat.zero_le _) (Nat.zero_le _) dX11_sizeBy_126 ⟨rfl, rfl⟩
  · replace hF := (if_pos c1).symm.trans hF
    refine a_iconst (v := (2 : Int32)) dX11_sizeBy_119 (by decide) ?_
    refine a_iload_n dX11_sizeBy_120 0 rfl rfl ?_
    refine a_imul dX11_sizeBy_121 ?_
    refine a_goto 126 dX11_sizeBy_122 (by decide) ?_
    replace hF := Option.some.inj hF
    subst hF
    exact a_iret rfl (Nat.zero_le _) (Nat.zero_le _) dX11_sizeBy_126 ⟨rfl, rfl⟩
def F_X11_sizeBy_86 (g : Nat × Nat) (a1 : Int32)  (v2 : Int32) (x0 : Int32) (x1 : Int32) (s : St) : Option (Int32 × St) := (bd (F_X11_isOf g v2 (2 : Int32) s) (fun r91 s91 => (if r91 = 0 then (F_X11_sizeBy_112 g a1  v2 (x0 + x1) (0 : Int32) s91) else (gd (inb a1 16) (gd (inb (s91 90 0 a1.toNatClampNeg) 16) (F_X11_sizeBy_112 g a1  v2 (x0 + x1) (s91 89 0 (s91 90 0 a1.toNatClampNeg).toNatClampNeg) s91))))))
set_option maxRecDepth 100000 in
set_option maxHeartbeats 4000000 in
theorem w_X11_sizeBy_86 {Z : ZE} {l : Launch} (hZ : OkM Z) {a1 : Int32}  {R : Int32 × St}  (v2 : Int32) (x0 : Int32) (x1 : Int32)  (s : St) (hF : F_X11_sizeBy_86 (zg Z) a1 v2 x0 x1 s = some R) : AW Z l iX11_sizeBy (Pq (rI R)) 0 0 86 [(0, .ref (za Z 60 0)), (1, .int a1), (2, .int v2)] [.int x1, .int x0] s := by
  unfold F_X11_sizeBy_86 at hF
  refine a_iadd dX11_sizeBy_86 ?_
  refine a_istore_n [(3, .int (x0 + x1)), (0, .ref (za Z 60 0)), (1, .int a1), (2, .int v2)] dX11_sizeBy_87 rfl (by decide) rfl ?_
  refine a_iload_n dX11_sizeBy_88 0 rfl rfl ?_
  refine a_iload_n dX11_sizeBy_89 3 rfl rfl ?_
  refine a_iconst (v := (2 : Int32)) dX11_sizeBy_90 (by decide) ?_
  obtain ⟨r91, s91, e91, hF⟩ := bd_some hF
  refine a_invS hZ.1 (As := [.int v2, .int (2 : Int32)]) (rest := [.int (x0 + x1)]) lk_X11_337 ⟨⟨by decide, by decide⟩, by decide, by decide⟩ rfl (Nat.le_of_ble_eq_true rfl) dX11_sizeBy_91 (m_X11_isOf hZ  e91) ?_
  show AW Z l iX11_sizeBy (Pq (rI R)) 0 0 94 [(3, .int (x0 + x1)), (0, .ref (za Z 60 0)), (1, .int a1), (2, .int v2)] [.int r91, .int (x0 + x1)] s91
  refine a_if_eq 111 dX11_sizeBy_94 (by decide) (fun c1 => ?_) (fun c1 => ?_)
  · replace hF := (if_pos c1).symm.trans hF
    refine a_iconst (v := (0 : Int32)) dX11_sizeBy_111 (by decide) ?_
    refine a_loc [(2, .int v2)] [3] rfl ?_
    exact w_X11_sizeBy_112 (l := l) hZ   v2 (x0 + x1) (0 : Int32)  _ hF
  · replace hF := (if_neg c1).symm.trans hF
    refine a_aload_n dX11_sizeBy_97 1 rfl rfl ?_
    refine a_getR hZ.1 (hZ.2 60 0 (by decide) (by decide) Nat.one_pos) fl_X11_106 rfl 0 rfl dX11_sizeBy_98 ?_
    refine a_aload_n dX11_sizeBy_101 1 rfl rfl ?_
    refine a_getR hZ.1 (hZ.2 60 0 (by decide) (by decide) Nat.one_pos) fl_X11_109 rfl 0 rfl dX11_sizeBy_102 ?_
    refine a_iload_n dX11_sizeBy_105 2 rfl rfl ?_
    obtain ⟨b2, hF⟩ := gd_some hF
    refine a_iald hZ.1 (s91 90 0 a1.toNatClampNeg) (hZ.2 90 0 (by decide) (by decide) Nat.one_pos) rfl rfl (inb_vp b2) rfl dX11_sizeBy_106 ?_
    obtain ⟨b3, hF⟩ := gd_some hF
    refine a_iald hZ.1 (s91 89 0 (s91 90 0 a1.toNatClampNeg).toNatClampNeg) (hZ.2 89 0 (by decide) (by decide) Nat.one_pos) rfl rfl (inb_vp b3) rfl dX11_sizeBy_107 ?_
    refine a_goto 112 dX11_sizeBy_108 (by decide) ?_
    refine a_loc [(2, .int v2)] [3] rfl ?_
    exact w_X11_sizeBy_112 (l := l) hZ   v2 (x0 + x1) (s91 89 0 (s91 90 0 a1.toNatClampNeg).toNatClampNeg)  _ hF
def F_X11_sizeBy_57 (g : Nat × Nat) (a1 : Int32)  (v2 : Int32) (s : St) : Option (Int32 × St) := (bd (F_X11_began g (10 : Int32) s) (fun r60 s60 => (gd (inb a1 16) (bd (F_X11_isOf g v2 (1 : Int32) s60) (fun r71 s71 => (if r71 = 0 then (F_X11_sizeBy_86 g a1  v2 (s60 89 0 a1.toNatClampNeg) (0 : Int32) s71) else (bd (F_X11_markOf g a1 s71) (fun r79 s79 => (F_X11_sizeBy_86 g a1  v2 (s60 89 0 a1.toNatClampNeg) r79 s79)))))))))
set_option maxRecDepth 100000 in
set_option maxHeartbeats 4000000 in
theorem w_X11_sizeBy_57 {Z : ZE} {l : Launch} (hZ : OkM Z) {a1 : Int32}  {R : Int32 × St}  (v2 : Int32)  (s : St) (hF : F_X11_sizeBy_57 (zg Z) a1 v2 s = some R) : AW Z l iX11_sizeBy (Pq (rI R)) 0 0 57 [(0, .ref (za Z 60 0)), (1, .int a1), (2, .int v2)] [] s := by
  unfold F_X11_sizeBy_57 at hF
  refine a_aload_n dX11_sizeBy_57 0 rfl rfl ?_
  refine a_bipush (v := (10 : Int32)) dX11_sizeBy_58 (by decide) ?_
  obtain ⟨r60, s60, e60, hF⟩ := bd_some hF
  refine a_invV hZ.1 (As := [.int (10 : Int32)]) (rest := []) (hZ.2 60 0 (by decide) (by decide) Nat.one_pos) lk_X11_344 ⟨⟨by decide, by decide⟩, by decide, by decide⟩ rfl (Nat.le_of_ble_eq_true rfl) dX11_sizeBy_60 (m_X11_began hZ  e60) ?_
  show AW Z l iX11_sizeBy (Pq (rI R)) 0 0 63 [(0, .ref (za Z 60 0)), (1, .int a1), (2, .int v2)] [] s60
  refine a_aload_n dX11_sizeBy_63 0 rfl rfl ?_
  refine a_getR hZ.1 (hZ.2 60 0 (by decide) (by decide) Nat.one_pos) fl_X11_106 rfl 0 rfl dX11_sizeBy_64 ?_
  refine a_iload_n dX11_sizeBy_67 1 rfl rfl ?_
  obtain ⟨b1, hF⟩ := gd_some hF
  refine a_iald hZ.1 (s60 89 0 a1.toNatClampNeg) (hZ.2 89 0 (by decide) (by decide) Nat.one_pos) rfl rfl (inb_vp b1) rfl dX11_sizeBy_68 ?_
  refine a_iload_n dX11_sizeBy_69 2 rfl rfl ?_
  refine a_iconst (v := (1 : Int32)) dX11_sizeBy_70 (by decide) ?_
  obtain ⟨r71, s71, e71, hF⟩ := bd_some hF
  refine a_invS hZ.1 (As := [.int v2, .int (1 : Int32)]) (rest := [.int (s60 89 0 a1.toNatClampNeg)]) lk_X11_337 ⟨⟨by decide, by decide⟩, by decide, by decide⟩ rfl (Nat.le_of_ble_eq_true rfl) dX11_sizeBy_71 (m_X11_isOf hZ  e71) ?_
  show AW Z l iX11_sizeBy (Pq (rI R)) 0 0 74 [(0, .ref (za Z 60 0)), (1, .int a1), (2, .int v2)] [.int r71, .int (s60 89 0 a1.toNatClampNeg)] s71
  refine a_if_eq 85 dX11_sizeBy_74 (by decide) (fun c2 => ?_) (fun c2 => ?_)
  · replace hF := (if_pos c2).symm.trans hF
    refine a_iconst (v := (0 : Int32)) dX11_sizeBy_85 (by decide) ?_
    exact w_X11_sizeBy_86 (l := l) hZ   v2 (s60 89 0 a1.toNatClampNeg) (0 : Int32)  _ hF
  · replace hF := (if_neg c2).symm.trans hF
    refine a_aload_n dX11_sizeBy_77 0 rfl rfl ?_
    refine a_iload_n dX11_sizeBy_78 1 rfl rfl ?_
    obtain ⟨r79, s79, e79, hF⟩ := bd_some hF
    refine a_invV hZ.1 (As := [.int a1]) (rest := [.int (s60 89 0 a1.toNatClampNeg)]) (hZ.2 60 0 (by decide) (by decide) Nat.one_pos) lk_X11_350 ⟨⟨by decide, by decide⟩, by decide, by decide⟩ rfl (Nat.le_of_ble_eq_true rfl) dX11_sizeBy_79 (m_X11_markOf hZ  e79) ?_
    show AW Z l iX11_sizeBy (Pq (rI R)) 0 0 82 [(0, .ref (za Z 60 0)), (1, .int a1), (2, .int v2)] [.int r79, .int (s60 89 0 a1.toNatClampNeg)] s79
    refine a_goto 86 dX11_sizeBy_82 (by decide) ?_
    exact w_X11_sizeBy_86 (l := l) hZ   v2 (s60 89 0 a1.toNatClampNeg) r79  _ hF
def F_X11_sizeBy_43 (g : Nat × Nat) (a1 : Int32)  (v2 : Int32) (s : St) : Option (Int32 × St) := (bd (F_X11_isOf g v2 (1 : Int32) s) (fun r45 s45 => (if r45 = 0 then (F_X11_sizeBy_57 g a1  v2 s45) else (bd (F_X11_began g (11 : Int32) s45) (fun r54 s54 => (F_X11_sizeBy_57 g a1  v2 s54))))))
set_option maxRecDepth 100000 in
set_option maxHeartbeats 4000000 in
theorem w_X11_sizeBy_43 {Z : ZE} {l : Launch} (hZ : OkM Z) {a1 : Int32}  {R : Int32 × St}  (v2 : Int32)  (s : St) (hF : F_X11_sizeBy_43 (zg Z) a1 v2 s = some R) : AW Z l iX11_sizeBy (Pq (rI R)) 0 0 43 [(0, .ref (za Z 60 0)), (1, .int a1), (2, .int v2)] [] s := by
  unfold F_X11_sizeBy_43 at hF
  refine a_iload_n dX11_sizeBy_43 2 rfl rfl ?_
  refine a_iconst (v := (1 : Int32)) dX11_sizeBy_44 (by decide) ?_
  obtain ⟨r45, s45, e45, hF⟩ := bd_some hF
  refine a_invS hZ.1 (As := [.int v2, .int (1 : Int32)]) (rest := []) lk_X11_337 ⟨⟨by decide, by decide⟩, by decide, by decide⟩ rfl (Nat.le_of_ble_eq_true rfl) dX11_sizeBy_45 (m_X11_isOf hZ  e45) ?_
  show AW Z l iX11_sizeBy (Pq (rI R)) 0 0 48 [(0, .ref (za Z 60 0)), (1, .int a1), (2, .int v2)] [.int r45] s45
  refine a_if_eq 57 dX11_sizeBy_48 (by decide) (fun c1 => ?_) (fun c1 => ?_)
  · replace hF := (if_pos c1).symm.trans hF
    exact w_X11_sizeBy_57 (l := l) hZ   v2  _ hF
  · replace hF := (if_neg c1).symm.trans hF
    refine a_aload_n dX11_sizeBy_51 0 rfl rfl ?_
    refine a_bipush (v := (11 : Int32)) dX11_sizeBy_52 (by decide) ?_
    obtain ⟨r54, s54, e54, hF⟩ := bd_some hF
    refine a_invV hZ.1 (As := [.int (11 : Int32)]) (rest := []) (hZ.2 60 0 (by decide) (by decide) Nat.one_pos) lk_X11_344 ⟨⟨by decide, by decide⟩, by decide, by decide⟩ rfl (Nat.le_of_ble_eq_true rfl) dX11_sizeBy_54 (m_X11_began hZ  e54) ?_
    show AW Z l iX11_sizeBy (Pq (rI R)) 0 0 57 [(0, .ref (za Z 60 0)), (1, .int a1), (2, .int v2)] [] s54
    exact w_X11_sizeBy_57 (l := l) hZ   v2  _ hF
def F_X11_sizeBy_29 (g : Nat × Nat) (a1 : Int32)  (v2 : Int32) (s : St) : Option (Int32 × St) := (bd (F_X11_isOf g v2 (2 : Int32) s) (fun r31 s31 => (if r31 = 0 then (F_X11_sizeBy_43 g a1  v2 s31) else (bd (F_X11_began g (12 : Int32) s31) (fun r40 s40 => (F_X11_sizeBy_43 g a1  v2 s40))))))
set_option maxRecDepth 100000 in
set_option maxHeartbeats 4000000 in
theorem w_X11_sizeBy_29 {Z : ZE} {l : Launch} (hZ : OkM Z) {a1 : Int32}  {R : Int32 × St}  (v2 : Int32)  (s : St) (hF : F_X11_sizeBy_29 (zg Z) a1 v2 s = some R) : AW Z l iX11_sizeBy (Pq (rI R)) 0 0 29 [(0, .ref (za Z 60 0)), (1, .int a1), (2, .int v2)] [] s := by
  unfold F_X11_sizeBy_29 at hF
  refine a_iload_n dX11_sizeBy_29 2 rfl rfl ?_
  refine a_iconst (v := (2 : Int32)) dX11_sizeBy_30 (by decide) ?_
  obtain ⟨r31, s31, e31, hF⟩ := bd_some hF
  refine a_invS hZ.1 (As := [.int v2, .int (2 : Int32)]) (rest := []) lk_X11_337 ⟨⟨by decide, by decide⟩, by decide, by decide⟩ rfl (Nat.le_of_ble_eq_true rfl) dX11_sizeBy_31 (m_X11_isOf hZ  e31) ?_
  show AW Z l iX11_sizeBy (Pq (rI R)) 0 0 34 [(0, .ref (za Z 60 0)), (1, .int a1), (2, .int v2)] [.int r31] s31
  refine a_if_eq 43 dX11_sizeBy_34 (by decide) (fun c1 => ?_) (fun c1 => ?_)
  · replace hF := (if_pos c1).symm.trans hF
    exact w_X11_sizeBy_43 (l := l) hZ   v2  _ hF
  · replace hF := (if_neg c1).symm.trans hF
    refine a_aload_n dX11_sizeBy_37 0 rfl rfl ?_
    refine a_bipush (v := (12 : Int32)) dX11_sizeBy_38 (by decide) ?_
    obtain ⟨r40, s40, e40, hF⟩ := bd_some hF
    refine a_invV hZ.1 (As := [.int (12 : Int32)]) (rest := []) (hZ.2 60 0 (by decide) (by decide) Nat.one_pos) lk_X11_344 ⟨⟨by decide, by decide⟩, by decide, by decide⟩ rfl (Nat.le_of_ble_eq_true rfl) dX11_sizeBy_40 (m_X11_began hZ  e40) ?_
    show AW Z l iX11_sizeBy (Pq (rI R)) 0 0 43 [(0, .ref (za Z 60 0)), (1, .int a1), (2, .int v2)] [] s40
    exact w_X11_sizeBy_43 (l := l) hZ   v2  _ hF
def F_X11_sizeBy (g : Nat × Nat) (a1 : Int32)   (s : St) : Option (Int32 × St) := (gd (inb a1 16) (if (s 88 0 a1.toNatClampNeg) = (5 : Int32) then (bd (F_X11_loanSize g a1 s) (fun r14 s14 => (some (r14, s14)))) else (if (s 88 0 a1.toNatClampNeg) = (3 : Int32) then (bd (F_X11_began g (13 : Int32) s) (fun r26 s26 => (F_X11_sizeBy_29 g a1  (s 88 0 a1.toNatClampNeg) s26))) else (F_X11_sizeBy_29 g a1  (s 88 0 a1.toNatClampNeg) s))))
set_option maxRecDepth 100000 in
set_option maxHeartbeats 4000000 in
theorem w_X11_sizeBy {Z : ZE} {l : Launch} (hZ : OkM Z) {a1 : Int32}  {R : Int32 × St}    (s : St) (hF : F_X11_sizeBy (zg Z) a1  s = some R) : AW Z l iX11_sizeBy (Pq (rI R)) 0 0 0 [(0, .ref (za Z 60 0)), (1, .int a1)] [] s := by
  unfold F_X11_sizeBy at hF
  refine a_aload_n dX11_sizeBy_0 0 rfl rfl ?_
  refine a_getR hZ.1 (hZ.2 60 0 (by decide) (by decide) Nat.one_pos) fl_X11_103 rfl 0 rfl dX11_sizeBy_1 ?_
  refine a_iload_n dX11_sizeBy_4 1 rfl rfl ?_
  obtain ⟨b1, hF⟩ := gd_some hF
  refine a_iald hZ.1 (s 88 0 a1.toNatClampNeg) (hZ.2 88 0 (by decide) (by decide) Nat.one_pos) rfl rfl (inb_vp b1) rfl dX11_sizeBy_5 ?_
  refine a_istore_n [(2, .int (s 88 0 a1.toNatClampNeg)), (0, .ref (za Z 60 0)), (1, .int a1)] dX11_sizeBy_6 rfl (by decide) rfl ?_
  refine a_iload_n dX11_sizeBy_7 0 rfl rfl ?_
  refine a_iconst (v := (5 : Int32)) dX11_sizeBy_8 (by decide) ?_
  refine a_icmp_ne 18 dX11_sizeBy_9 (by decide) (fun c2 => ?_) (fun c2 => ?_)
  · replace hF := (if_neg c2).symm.trans hF
    refine a_iload_n dX11_sizeBy_18 0 rfl rfl ?_
    refine a_iconst (v := (3 : Int32)) dX11_sizeBy_19 (by decide) ?_
    refine a_icmp_ne 29 dX11_sizeBy_20 (by decide) (fun c3 => ?_) (fun c3 => ?_)
    · replace hF := (if_neg c3).symm.trans hF
      refine a_loc [(0, .ref (za Z 60 0)), (1, .int a1), (2, .int (s 88 0 a1.toNatClampNeg))] [1, 2, 0] rfl ?_
      exact w_X11_sizeBy_29 (l := l) hZ   (s 88 0 a1.toNatClampNeg)  _ hF
    · replace hF := (if_pos c3).symm.trans hF
      refine a_aload_n dX11_sizeBy_23 1 rfl rfl ?_
      refine a_bipush (v := (13 : Int32)) dX11_sizeBy_24 (by decide) ?_
      obtain ⟨r26, s26, e26, hF⟩ := bd_some hF
      refine a_invV hZ.1 (As := [.int (13 : Int32)]) (rest := []) (hZ.2 60 0 (by decide) (by decide) Nat.one_pos) lk_X11_344 ⟨⟨by decide, by decide⟩, by decide, by decide⟩ rfl (Nat.le_of_ble_eq_true rfl) dX11_sizeBy_26 (m_X11_began hZ  e26) ?_
      show AW Z l iX11_sizeBy (Pq (rI R)) 0 0 29 [(2, .int (s 88 0 a1.toNatClampNeg)), (0, .ref (za Z 60 0)), (1, .int a1)] [] s26
      refine a_loc [(0, .ref (za Z 60 0)), (1, .int a1), (2, .int (s 88 0 a1.toNatClampNeg))] [1, 2, 0] rfl ?_
      exact w_X11_sizeBy_29 (l := l) hZ   (s 88 0 a1.toNatClampNeg)  _ hF
  · replace hF := (if_pos c2).symm.trans hF
    refine a_aload_n dX11_sizeBy_12 1 rfl rfl ?_
    refine a_iload_n dX11_sizeBy_13 2 rfl rfl ?_
    obtain ⟨r14, s14, e14, hF⟩ := bd_some hF
    refine a_invV hZ.1 (As := [.int a1]) (rest := []) (hZ.2 60 0 (by decide) (by decide) Nat.one_pos) lk_X11_347 ⟨⟨by decide, by decide⟩, by decide, by decide⟩ rfl (Nat.le_of_ble_eq_true rfl) dX11_sizeBy_14 (m_X11_loanSize hZ  e14) ?_
    show AW Z l iX11_sizeBy (Pq (rI R)) 0 0 17 [(2, .int (s 88 0 a1.toNatClampNeg)), (0, .ref (za Z 60 0)), (1, .int a1)] [.int r14] s14
    replace hF := Option.some.inj hF
    subst hF
    exact a_iret rfl (Nat.zero_le _) (Nat.zero_le _) dX11_sizeBy_17 ⟨rfl, rfl⟩
theorem m_X11_sizeBy {Z : ZE} {l : Launch} (hZ : OkM Z) {a1 : Int32}  {s : St} {R : Int32 × St} (hF : F_X11_sizeBy (zg Z) a1 s = some R) : Sp Z l yX11_sizeBy iX11_sizeBy [.ref (za Z 60 0), .int a1] s (rI R) :=
  Sp.of (by decide) rfl (Nat.le_of_ble_eq_true rfl) (w_X11_sizeBy hZ  s hF)
-- X11_ask
def F_X11_ask (g : Nat × Nat) (a1 : Int32) (a2 : Int32)   (s : St) : Option (Int32 × St) := (bd (F_X11_isThing g a1 (up s 60 0 0 (0 : Int32))) (fun r7 s7 => (if r7 = 0 then (some ((-1000001), s7)) else (bd (F_X11_in g a2.toInt64 (0 : Int64) (1 : Int64) s7) (fun r17 s17 => (if r17 = 0 then (some ((-1000001), s17)) else (if a2 = 0 then (bd (F_X11_sizeBy g a1 (up s17 60 0 56 (0 : Int32))) (fun r37 s37 => (some (r37, s37)))) else (bd (F_X11_markOf g a1 (up s17 60 0 56 (0 : Int32))) (fun r45 s45 => (some (r45, s45)))))))))))
set_option maxRecDepth 100000 in
set_option maxHeartbeats 4000000 in
theorem w_X11_ask {Z : ZE} {l : Launch} (hZ : OkM Z) {a1 : Int32} {a2 : Int32}  {R : Int32 × St}    (s : St) (hF : F_X11_ask (zg Z) a1 a2  s = some R) : AW Z l iX11_ask (Pq (rI R)) 0 0 0 [(0, .ref (za Z 60 0)), (1, .int a1), (2, .int a2)] [] s := by
  unfold F_X11_ask at hF
  refine a_aload_n dX11_ask_0 0 rfl rfl ?_
  refine a_iconst (v := (0 : Int32)) dX11_ask_1 (by decide) ?_
  refine a_put hZ.1 (hZ.2 60 0 (by decide) (by decide) Nat.one_pos) fl_X11_1 rfl rfl rfl dX11_ask_2 ?_
  refine a_aload_n dX11_ask_5 0 rfl rfl ?_
  refine a_iload_n dX11_ask_6 1 rfl rfl ?_
  obtain ⟨r7, s7, e7, hF⟩ := bd_some hF
  refine a_invV hZ.1 (As := [.int a1]) (rest := []) (hZ.2 60 0 (by decide) (by decide) Nat.one_pos) lk_X11_329 ⟨⟨by decide, by decide⟩, by decide, by decide⟩ rfl (Nat.le_of_ble_eq_true rfl) dX11_ask_7 (m_X11_isThing hZ  e7) ?_
  show AW Z l iX11_ask (Pq (rI R)) 0 0 10 [(0, .ref (za Z 60 0)), (1, .int a1), (2, .int a2)] [.int r7] s7
  refine a_if_eq 23 dX11_ask_10 (by decide) (fun c1 => ?_) (fun c1 => ?_)
  · replace hF := (if_pos c1).symm.trans hF
    refine a_ldc (v := (-1000001)) kw_1136 dX11_ask_23 ?_
    replace hF := Option.some.inj hF
    subst hF
    exact a_iret rfl (Nat.zero_le _) (Nat.zero_le _) dX11_ask_25 ⟨rfl, rfl⟩
  · replace hF := (if_neg c1).symm.trans hF
    refine a_iload_n dX11_ask_13 2 rfl rfl ?_
    refine a_i2l dX11_ask_14 ?_
    refine a_lconst (v := (0 : Int64)) dX11_ask_15 (by decide) ?_
    refine a_lconst (v := (1 : Int64)) dX11_ask_16 (by decide) ?_
    obtain ⟨r17, s17, e17, hF⟩ := bd_some hF
    refine a_invS hZ.1 (As := [.long a2.toInt64, .long (0 : Int64), .long (1 : Int64)]) (rest := []) lk_X11_126 ⟨⟨by decide, by decide⟩, by decide, by decide⟩ rfl (Nat.le_of_ble_eq_true rfl) dX11_ask_17 (m_X11_in hZ  e17) ?_
    show AW Z l iX11_ask (Pq (rI R)) 0 0 20 [(0, .ref (za Z 60 0)), (1, .int a1), (2, .int a2)] [.int r17] s17
    refine a_if_ne 26 dX11_ask_20 (by decide) (fun c2 => ?_) (fun c2 => ?_)
    · replace hF := (if_neg c2).symm.trans hF
      refine a_aload_n dX11_ask_26 0 rfl rfl ?_
      refine a_iconst (v := (0 : Int32)) dX11_ask_27 (by decide) ?_
      refine a_put hZ.1 (hZ.2 60 0 (by decide) (by decide) Nat.one_pos) fl_X11_341 rfl rfl rfl dX11_ask_28 ?_
      refine a_iload_n dX11_ask_31 2 rfl rfl ?_
      refine a_if_ne 43 dX11_ask_32 (by decide) (fun c3 => ?_) (fun c3 => ?_)
      · replace hF := (if_neg c3).symm.trans hF
        refine a_aload_n dX11_ask_43 0 rfl rfl ?_
        refine a_iload_n dX11_ask_44 1 rfl rfl ?_
        obtain ⟨r45, s45, e45, hF⟩ := bd_some hF
        refine a_invV hZ.1 (As := [.int a1]) (rest := []) (hZ.2 60 0 (by decide) (by decide) Nat.one_pos) lk_X11_350 ⟨⟨by decide, by decide⟩, by decide, by decide⟩ rfl (Nat.le_of_ble_eq_true rfl) dX11_ask_45 (m_X11_markOf hZ  e45) ?_
        show AW Z l iX11_ask (Pq (rI R)) 0 0 48 [(0, .ref (za Z 60 0)), (1, .int a1), (2, .int a2)] [.int r45] s45
        replace hF := Option.some.inj hF
        subst hF
        exact a_iret rfl (Nat.zero_le _) (Nat.zero_le _) dX11_ask_48 ⟨rfl, rfl⟩
      · replace hF := (if_pos c3).symm.trans hF
        refine a_aload_n dX11_ask_35 0 rfl rfl ?_
        refine a_iload_n dX11_ask_36 1 rfl rfl ?_
        obtain ⟨r37, s37, e37, hF⟩ := bd_some hF
        refine a_invV hZ.1 (As := [.int a1]) (rest := []) (hZ.2 60 0 (by decide) (by decide) Nat.one_pos) lk_X11_353 ⟨⟨by decide, by decide⟩, by decide, by decide⟩ rfl (Nat.le_of_ble_eq_true rfl) dX11_ask_37 (m_X11_sizeBy hZ  e37) ?_
        show AW Z l iX11_ask (Pq (rI R)) 0 0 40 [(0, .ref (za Z 60 0)), (1, .int a1), (2, .int a2)] [.int r37] s37
        refine a_goto 48 dX11_ask_40 (by decide) ?_
        replace hF := Option.some.inj hF
        subst hF
        exact a_iret rfl (Nat.zero_le _) (Nat.zero_le _) dX11_ask_48 ⟨rfl, rfl⟩
    · replace hF := (if_pos c2).symm.trans hF
      refine a_ldc (v := (-1000001)) kw_1136 dX11_ask_23 ?_
      replace hF := Option.some.inj hF
      subst hF
      exact a_iret rfl (Nat.zero_le _) (Nat.zero_le _) dX11_ask_25 ⟨rfl, rfl⟩
theorem m_X11_ask {Z : ZE} {l : Launch} (hZ : OkM Z) {a1 : Int32} {a2 : Int32}  {s : St} {R : Int32 × St} (hF : F_X11_ask (zg Z) a1 a2 s = some R) : Sp Z l yX11_ask iX11_ask [.ref (za Z 60 0), .int a1, .int a2] s (rI R) :=
  Sp.of (by decide) rfl (Nat.le_of_ble_eq_true rfl) (w_X11_ask hZ  s hF)
-- X11_bad
def F_X11_bad (g : Nat × Nat) (a1 : Int32)   (s : St) : Option (Unit × St) := (if (s 60 0 38) = 0 then (some ((), (up (up s 60 0 38 a1) 60 0 39 (s 60 0 36)))) else (some ((), s)))
set_option maxRecDepth 100000 in
set_option maxHeartbeats 4000000 in
theorem w_X11_bad {Z : ZE} {l : Launch} (hZ : OkM Z) {a1 : Int32}  {R : Unit × St}    (s : St) (hF : F_X11_bad (zg Z) a1  s = some R) : AW Z l iX11_bad (Pq (rU R)) 0 0 0 [(0, .ref (za Z 60 0)), (1, .int a1)] [] s := by
  unfold F_X11_bad at hF
  refine a_aload_n dX11_bad_0 0 rfl rfl ?_
  refine a_getI hZ.1 (s 60 0 38) (hZ.2 60 0 (by decide) (by decide) Nat.one_pos) fl_X11_246 rfl rfl dX11_bad_1 ?_
  refine a_if_ne 20 dX11_bad_4 (by decide) (fun c1 => ?_) (fun c1 => ?_)
  · replace hF := (if_neg c1).symm.trans hF
    replace hF := Option.some.inj hF
    subst hF
    exact a_vret rfl (Nat.zero_le _) (Nat.zero_le _) dX11_bad_20 ⟨rfl, rfl⟩
  · replace hF := (if_pos c1).symm.trans hF
    refine a_aload_n dX11_bad_7 0 rfl rfl ?_
    refine a_iload_n dX11_bad_8 1 rfl rfl ?_
    refine a_put hZ.1 (hZ.2 60 0 (by decide) (by decide) Nat.one_pos) fl_X11_246 rfl rfl rfl dX11_bad_9 ?_
    refine a_aload_n dX11_bad_12 0 rfl rfl ?_
    refine a_aload_n dX11_bad_13 0 rfl rfl ?_
    refine a_getI hZ.1 (s 60 0 36) (hZ.2 60 0 (by decide) (by decide) Nat.one_pos) fl_X11_231 rfl (by simp [up]) dX11_bad_14 ?_
    refine a_put hZ.1 (hZ.2 60 0 (by decide) (by decide) Nat.one_pos) fl_X11_249 rfl rfl rfl dX11_bad_17 ?_
    replace hF := Option.some.inj hF
    subst hF
    exact a_vret rfl (Nat.zero_le _) (Nat.zero_le _) dX11_bad_20 ⟨rfl, rfl⟩
theorem m_X11_bad {Z : ZE} {l : Launch} (hZ : OkM Z) {a1 : Int32}  {s : St} {R : Unit × St} (hF : F_X11_bad (zg Z) a1 s = some R) : Sp Z l yX11_bad iX11_bad [.ref (za Z 60 0), .int a1] s (rU R) :=
  Sp.of (by decide) rfl (Nat.le_of_ble_eq_true rfl) (w_X11_bad hZ  s hF)
-- X11_balesOf
def F_X11_balesOf_9 (g : Nat × Nat) (a1 : Int32)  : Nat → Int32 → Int32 → St → Option (Int32 × St)
  | 0, _, _, _ => none
  | n_ + 1, v2, v3, s => (if (s 60 0 15) ≤ v3 then (some (v2, s)) else (gd (inb (((4 : Int32) * v3) + a1) 24) (F_X11_balesOf_9 g a1  n_ (v2 + (s 74 0 (((4 : Int32) * v3) + a1).toNatClampNeg)) (v3 + 1) s)))
set_option maxRecDepth 100000 in
set_option maxHeartbeats 4000000 in
theorem w_X11_balesOf_9 {Z : ZE} {l : Launch} (hZ : OkM Z) {a1 : Int32}  {R : Int32 × St}  : ∀ (n_ : Nat) (v2 : Int32) (v3 : Int32)  (s : St), F_X11_balesOf_9 (zg Z) a1 n_ v2 v3 s = some R → AW Z l iX11_balesOf (Pq (rI R)) 0 0 9 [(0, .ref (za Z 60 0)), (1, .int a1), (2, .int v2), (3, .int v3)] [] s := by
  intro n_
  induction n_ with
  | zero =>
    intro v2 v3 s hF
    exact absurd hF (by rw [F_X11_balesOf_9]; exact fun q => by cases q)
  | succ n_ w9_ =>
    intro v2 v3 s hF
    rw [F_X11_balesOf_9] at hF
    refine a_iload_n dX11_balesOf_9 3 rfl rfl ?_
    refine a_aload_n dX11_balesOf_10 0 rfl rfl ?_
    refine a_getI hZ.1 (s 60 0 15) (hZ.2 60 0 (by decide) (by decide) Nat.one_pos) fl_X11_145 rfl rfl dX11_balesOf_11 ?_
    refine a_icmp_ge 36 dX11_balesOf_14 (by decide) (fun c1 => ?_) (fun c1 => ?_)
    · replace hF := (if_pos c1).symm.trans hF
      refine a_iload_n dX11_balesOf_36 2 rfl rfl ?_
      replace hF := Option.some.inj hF
      subst hF
      exact a_iret rfl (Nat.zero_le _) (Nat.zero_le _) dX11_balesOf_37 ⟨rfl, rfl⟩
    · replace hF := (if_neg c1).symm.trans hF
      refine a_iload_n dX11_balesOf_17 2 rfl rfl ?_
      refine a_aload_n dX11_balesOf_18 0 rfl rfl ?_
      refine a_getR hZ.1 (hZ.2 60 0 (by decide) (by decide) Nat.one_pos) fl_X11_60 rfl 0 rfl dX11_balesOf_19 ?_
      refine a_iconst (v := (4 : Int32)) dX11_balesOf_22 (by decide) ?_
      refine a_iload_n dX11_balesOf_23 3 rfl rfl ?_
      refine a_imul dX11_balesOf_24 ?_
      refine a_iload_n dX11_balesOf_25 1 rfl rfl ?_
      refine a_iadd dX11_balesOf_26 ?_
      obtain ⟨b2, hF⟩ := gd_some hF
      refine a_iald hZ.1 (s 74 0 (((4 : Int32) * v3) + a1).toNatClampNeg) (hZ.2 74 0 (by decide) (by decide) Nat.one_pos) rfl rfl (inb_vp b2) rfl dX11_balesOf_27 ?_
      refine a_iadd dX11_balesOf_28 ?_
      refine a_istore_n [(2, .int (v2 + (s 74 0 (((4 : Int32) * v3) + a1).toNatClampNeg))), (0, .ref (za Z 60 0)), (1, .int a1), (3, .int v3)] dX11_balesOf_29 rfl (by decide) rfl ?_
      refine a_iinc [(3, .int (v3 + 1)), (2, .int (v2 + (s 74 0 (((4 : Int32) * v3) + a1).toNatClampNeg))), (0, .ref (za Z 60 0)), (1, .int a1)] dX11_balesOf_30 3 rfl rfl (by decide) rfl ?_
      refine a_goto 9 dX11_balesOf_33 (by decide) ?_
      refine a_loc [(0, .ref (za Z 60 0)), (1, .int a1), (2, .int (v2 + (s 74 0 (((4 : Int32) * v3) + a1).toNatClampNeg))), (3, .int (v3 + 1))] [2, 3, 1, 0] rfl ?_
      exact w9_ (v2 + (s 74 0 (((4 : Int32) * v3) + a1).toNatClampNeg)) (v3 + 1)  _ hF
def F_X11_balesOf (g : Nat × Nat) (a1 : Int32)   (s : St) : Option (Int32 × St) := (gd (inb a1 4) (F_X11_balesOf_9 g a1  fu (s 66 0 a1.toNatClampNeg) (0 : Int32) s))
set_option maxRecDepth 100000 in
set_option maxHeartbeats 4000000 in
theorem w_X11_balesOf {Z : ZE} {l : Launch} (hZ : OkM Z) {a1 : Int32}  {R : Int32 × St}    (s : St) (hF : F_X11_balesOf (zg Z) a1  s = some R) : AW Z l iX11_balesOf (Pq (rI R)) 0 0 0 [(0, .ref (za Z 60 0)), (1, .int a1)] [] s := by
  unfold F_X11_balesOf at hF
  refine a_aload_n dX11_balesOf_0 0 rfl rfl ?_
  refine a_getR hZ.1 (hZ.2 60 0 (by decide) (by decide) Nat.one_pos) fl_X11_33 rfl 0 rfl dX11_balesOf_1 ?_
  refine a_iload_n dX11_balesOf_4 1 rfl rfl ?_
  obtain ⟨b1, hF⟩ := gd_some hF
  refine a_iald hZ.1 (s 66 0 a1.toNatClampNeg) (hZ.2 66 0 (by decide) (by decide) Nat.one_pos) rfl rfl (inb_vp b1) rfl dX11_balesOf_5 ?_
  refine a_istore_n [(2, .int (s 66 0 a1.toNatClampNeg)), (0, .ref (za Z 60 0)), (1, .int a1)] dX11_balesOf_6 rfl (by decide) rfl ?_
  refine a_iconst (v := (0 : Int32)) dX11_balesOf_7 (by decide) ?_
  refine a_istore_n [(3, .int (0 : Int32)), (2, .int (s 66 0 a1.toNatClampNeg)), (0, .ref (za Z 60 0)), (1, .int a1)] dX11_balesOf_8 rfl (by decide) rfl ?_
  refine a_loc [(0, .ref (za Z 60 0)), (1, .int a1), (2, .int (s 66 0 a1.toNatClampNeg)), (3, .int (0 : Int32))] [2, 3, 1, 0] rfl ?_
  exact w_X11_balesOf_9 (l := l) hZ   fu (s 66 0 a1.toNatClampNeg) (0 : Int32)  _ hF
theorem m_X11_balesOf {Z : ZE} {l : Launch} (hZ : OkM Z) {a1 : Int32}  {s : St} {R : Int32 × St} (hF : F_X11_balesOf (zg Z) a1 s = some R) : Sp Z l yX11_balesOf iX11_balesOf [.ref (za Z 60 0), .int a1] s (rI R) :=
  Sp.of (by decide) rfl (Nat.le_of_ble_eq_true rfl) (w_X11_balesOf hZ  s hF)
-- X11_byteAt
def F_X11_byteAt (g : Nat × Nat) (a1 : Int32)   (s : St) : Option (Int32 × St) := (if (s 60 0 33) ≤ a1 then (some ((-1000000), s)) else (gd (inb a1 400) (some ((s 82 0 a1.toNatClampNeg), s))))
set_option maxRecDepth 100000 in
set_option maxHeartbeats 4000000 in
theorem w_X11_byteAt {Z : ZE} {l : Launch} (hZ : OkM Z) {a1 : Int32}  {R : Int32 × St}    (s : St) (hF : F_X11_byteAt (zg Z) a1  s = some R) : AW Z l iX11_byteAt (Pq (rI R)) 0 0 0 [(0, .ref (za Z 60 0)), (1, .int a1)] [] s := by
  unfold F_X11_byteAt at hF
  refine a_iload_n dX11_byteAt_0 1 rfl rfl ?_
  refine a_aload_n dX11_byteAt_1 0 rfl rfl ?_
  refine a_getI hZ.1 (s 60 0 33) (hZ.2 60 0 (by decide) (by decide) Nat.one_pos) fl_X11_222 rfl rfl dX11_byteAt_2 ?_
  refine a_icmp_ge 17 dX11_byteAt_5 (by decide) (fun c1 => ?_) (fun c1 => ?_)
  · replace hF := (if_pos c1).symm.trans hF
    refine a_ldc (v := (-1000000)) kw_951 dX11_byteAt_17 ?_
    replace hF := Option.some.inj hF
    subst hF
    exact a_iret rfl (Nat.zero_le _) (Nat.zero_le _) dX11_byteAt_19 ⟨rfl, rfl⟩
  · replace hF := (if_neg c1).symm.trans hF
    refine a_aload_n dX11_byteAt_8 0 rfl rfl ?_
    refine a_getR hZ.1 (hZ.2 60 0 (by decide) (by decide) Nat.one_pos) fl_X11_85 rfl 0 rfl dX11_byteAt_9 ?_
    refine a_iload_n dX11_byteAt_12 1 rfl rfl ?_
    obtain ⟨b2, hF⟩ := gd_some hF
    refine a_iald hZ.1 (s 82 0 a1.toNatClampNeg) (hZ.2 82 0 (by decide) (by decide) Nat.one_pos) rfl rfl (inb_vp b2) rfl dX11_byteAt_13 ?_
    refine a_goto 19 dX11_byteAt_14 (by decide) ?_
    replace hF := Option.some.inj hF
    subst hF
    exact a_iret rfl (Nat.zero_le _) (Nat.zero_le _) dX11_byteAt_19 ⟨rfl, rfl⟩
theorem m_X11_byteAt {Z : ZE} {l : Launch} (hZ : OkM Z) {a1 : Int32}  {s : St} {R : Int32 × St} (hF : F_X11_byteAt (zg Z) a1 s = some R) : Sp Z l yX11_byteAt iX11_byteAt [.ref (za Z 60 0), .int a1] s (rI R) :=
  Sp.of (by decide) rfl (Nat.le_of_ble_eq_true rfl) (w_X11_byteAt hZ  s hF)
-- X11_isSheet
def F_X11_isSheet (g : Nat × Nat) (a0 : Int32)   (s : St) : Option (Int32 × St) := (bd (F_X11_in g a0.toInt64 (0 : Int64) (7 : Int64) s) (fun r6 s6 => (gd (isb r6) (some (r6, s6)))))
set_option maxRecDepth 100000 in
set_option maxHeartbeats 4000000 in
theorem w_X11_isSheet {Z : ZE} {l : Launch} (hZ : OkM Z) {a0 : Int32}  {R : Int32 × St}    (s : St) (hF : F_X11_isSheet (zg Z) a0  s = some R) : AW Z l iX11_isSheet (Pq (rI R)) 0 0 0 [(0, .int a0)] [] s := by
  unfold F_X11_isSheet at hF
  refine a_iload_n dX11_isSheet_0 0 rfl rfl ?_
  refine a_i2l dX11_isSheet_1 ?_
  refine a_lconst (v := (0 : Int64)) dX11_isSheet_2 (by decide) ?_
  refine a_ldc2 (v := (7 : Int64)) kw_1131 dX11_isSheet_3 ?_
  obtain ⟨r6, s6, e6, hF⟩ := bd_some hF
  refine a_invS hZ.1 (As := [.long a0.toInt64, .long (0 : Int64), .long (7 : Int64)]) (rest := []) lk_X11_126 ⟨⟨by decide, by decide⟩, by decide, by decide⟩ rfl (Nat.le_of_ble_eq_true rfl) dX11_isSheet_6 (m_X11_in hZ  e6) ?_
  show AW Z l iX11_isSheet (Pq (rI R)) 0 0 9 [(0, .int a0)] [.int r6] s6
  obtain ⟨b1, hF⟩ := gd_some hF
  replace hF := Option.some.inj hF
  subst hF
  exact a_zret rfl (isb_n b1) (Nat.zero_le _) (Nat.zero_le _) dX11_isSheet_9 ⟨rfl, rfl⟩
theorem m_X11_isSheet {Z : ZE} {l : Launch} (hZ : OkM Z) {a0 : Int32}  {s : St} {R : Int32 × St} (hF : F_X11_isSheet (zg Z) a0 s = some R) : Sp Z l yX11_isSheet iX11_isSheet [.int a0] s (rI R) :=
  Sp.of (by decide) rfl (Nat.le_of_ble_eq_true rfl) (w_X11_isSheet hZ  s hF)
-- X11_copy
def F_X11_copy_167 (g : Nat × Nat) (a1 : Int32) (a2 : Int32) (a3 : Int32) (a4 : Int32) (a5 : Int32) (h143_ : Int32 → Int32 → St → Option (Int32 × St)) (v6 : Int32) (v7 : Int32) (x0 : Int32) (s : St) : Option (Int32 × St) := (gd (inb ((((80 : Int32) * a1) + a2) + x0) 640) (gd (inb ((((80 : Int32) * a3) + a4) + x0) 640) (h143_ v6 (v7 + 1) (up s 63 0 ((((80 : Int32) * a3) + a4) + x0).toNatClampNeg (s 63 0 ((((80 : Int32) * a1) + a2) + x0).toNatClampNeg)))))
set_option maxRecDepth 100000 in
set_option maxHeartbeats 4000000 in
theorem w_X11_copy_167 {Z : ZE} {l : Launch} (hZ : OkM Z) {a1 : Int32} {a2 : Int32} {a3 : Int32} {a4 : Int32} {a5 : Int32}  {R : Int32 × St} (h143_ : Int32 → Int32 → St → Option (Int32 × St)) (w143_ : ∀ (v6 : Int32) (v7 : Int32)  (s : St), h143_ v6 v7 s = some R → AW Z l iX11_copy (Pq (rI R)) 0 0 143 [(0, .ref (za Z 60 0)), (1, .int a1), (2, .int a2), (3, .int a3), (4, .int a4), (5, .int a5), (6, .int v6), (7, .int v7)] [] s) (v6 : Int32) (v7 : Int32) (x0 : Int32)  (s : St) (hF : F_X11_copy_167 (zg Z) a1 a2 a3 a4 a5 h143_ v6 v7 x0 s = some R) : AW Z l iX11_copy (Pq (rI R)) 0 0 167 [(0, .ref (za Z 60 0)), (1, .int a1), (2, .int a2), (3, .int a3), (4, .int a4), (5, .int a5), (6, .int v6), (7, .int v7)] [.int x0] s := by
  unfold F_X11_copy_167 at hF
  refine a_istore [(8, .int x0), (0, .ref (za Z 60 0)), (1, .int a1), (2, .int a2), (3, .int a3), (4, .int a4), (5, .int a5), (6, .int v6), (7, .int v7)] dX11_copy_167 (by decide) rfl ?_
  refine a_aload_n dX11_copy_169 1 rfl rfl ?_
  refine a_getR hZ.1 (hZ.2 60 0 (by decide) (by decide) Nat.one_pos) fl_X11_24 rfl 0 rfl dX11_copy_170 ?_
  refine a_bipush (v := (80 : Int32)) dX11_copy_173 (by decide) ?_
  refine a_iload_n dX11_copy_175 4 rfl rfl ?_
  refine a_imul dX11_copy_176 ?_
  refine a_iload dX11_copy_177 5 rfl ?_
  refine a_iadd dX11_copy_179 ?_
  refine a_iload dX11_copy_180 0 rfl ?_
  refine a_iadd dX11_copy_182 ?_
  refine a_aload_n dX11_copy_183 1 rfl rfl ?_
  refine a_getR hZ.1 (hZ.2 60 0 (by decide) (by decide) Nat.one_pos) fl_X11_24 rfl 0 rfl dX11_copy_184 ?_
  refine a_bipush (v := (80 : Int32)) dX11_copy_187 (by decide) ?_
  refine a_iload_n dX11_copy_189 2 rfl rfl ?_
  refine a_imul dX11_copy_190 ?_
  refine a_iload_n dX11_copy_191 3 rfl rfl ?_
  refine a_iadd dX11_copy_192 ?_
  refine a_iload dX11_copy_193 0 rfl ?_
  refine a_iadd dX11_copy_195 ?_
  obtain ⟨b1, hF⟩ := gd_some hF
  refine a_iald hZ.1 (s 63 0 ((((80 : Int32) * a1) + a2) + x0).toNatClampNeg) (hZ.2 63 0 (by decide) (by decide) Nat.one_pos) rfl rfl (inb_vp b1) rfl dX11_copy_196 ?_
  obtain ⟨b2, hF⟩ := gd_some hF
  refine a_iast hZ.1 (hZ.2 63 0 (by decide) (by decide) Nat.one_pos) rfl rfl (inb_vp b2) dX11_copy_197 ?_
  refine a_iinc [(7, .int (v7 + 1)), (8, .int x0), (0, .ref (za Z 60 0)), (1, .int a1), (2, .int a2), (3, .int a3), (4, .int a4), (5, .int a5), (6, .int v6)] dX11_copy_198 8 rfl rfl (by decide) rfl ?_
  refine a_goto 143 dX11_copy_201 (by decide) ?_
  refine a_loc [(0, .ref (za Z 60 0)), (1, .int a1), (2, .int a2), (3, .int a3), (4, .int a4), (5, .int a5), (6, .int v6), (7, .int (v7 + 1))] [2, 3, 4, 5, 6, 7, 8, 0] rfl ?_
  exact w143_ v6 (v7 + 1)  _ hF
def F_X11_copy_143 (g : Nat × Nat) (a1 : Int32) (a2 : Int32) (a3 : Int32) (a4 : Int32) (a5 : Int32)  : Nat → Int32 → Int32 → St → Option (Int32 × St)
  | 0, _, _, _ => none
  | n_ + 1, v6, v7, s => (if a5 ≤ v7 then (some (a5, s)) else (if v6 = 0 then (F_X11_copy_167 g a1 a2 a3 a4 a5 (F_X11_copy_143 g a1 a2 a3 a4 a5  n_) v6 v7 ((a5 - (1 : Int32)) - v7) s) else (F_X11_copy_167 g a1 a2 a3 a4 a5 (F_X11_copy_143 g a1 a2 a3 a4 a5  n_) v6 v7 v7 s)))
set_option maxRecDepth 100000 in
set_option maxHeartbeats 4000000 in
theorem w_X11_copy_143 {Z : ZE} {l : Launch} (hZ : OkM Z) {a1 : Int32} {a2 : Int32} {a3 : Int32} {a4 : Int32} {a5 : Int32}  {R : Int32 × St}  : ∀ (n_ : Nat) (v6 : Int32) (v7 : Int32)  (s : St), F_X11_copy_143 (zg Z) a1 a2 a3 a4 a5 n_ v6 v7 s = some R → AW Z l iX11_copy (Pq (rI R)) 0 0 143 [(0, .ref (za Z 60 0)), (1, .int a1), (2, .int a2), (3, .int a3), (4, .int a4), (5, .int a5), (6, .int v6), (7, .int v7)] [] s := by
  intro n_
  induction n_ with
  | zero =>
    intro v6 v7 s hF
    exact absurd hF (by rw [F_X11_copy_143]; exact fun q => by cases q)
  | succ n_ w143_ =>
    intro v6 v7 s hF
    rw [F_X11_copy_143] at hF
    refine a_iload dX11_copy_143 7 rfl ?_
    refine a_iload dX11_copy_145 5 rfl ?_
    refine a_icmp_ge 204 dX11_copy_147 (by decide) (fun c1 => ?_) (fun c1 => ?_)
    · replace hF := (if_pos c1).symm.trans hF
      refine a_iload dX11_copy_204 5 rfl ?_
      replace hF := Option.some.inj hF
      subst hF
      exact a_iret rfl (Nat.zero_le _) (Nat.zero_le _) dX11_copy_206 ⟨rfl, rfl⟩
    · replace hF := (if_neg c1).symm.trans hF
      refine a_iload dX11_copy_150 6 rfl ?_
      refine a_if_eq 160 dX11_copy_152 (by decide) (fun c2 => ?_) (fun c2 => ?_)
      · replace hF := (if_pos c2).symm.trans hF
        refine a_iload dX11_copy_160 5 rfl ?_
        refine a_iconst (v := (1 : Int32)) dX11_copy_162 (by decide) ?_
        refine a_isub dX11_copy_163 ?_
        refine a_iload dX11_copy_164 7 rfl ?_
        refine a_isub dX11_copy_166 ?_
        exact w_X11_copy_167 (l := l) hZ  (F_X11_copy_143 (zg Z) a1 a2 a3 a4 a5 n_) w143_ v6 v7 ((a5 - (1 : Int32)) - v7)  _ hF
      · replace hF := (if_neg c2).symm.trans hF
        refine a_iload dX11_copy_155 7 rfl ?_
        refine a_goto 167 dX11_copy_157 (by decide) ?_
        exact w_X11_copy_167 (l := l) hZ  (F_X11_copy_143 (zg Z) a1 a2 a3 a4 a5 n_) w143_ v6 v7 v7  _ hF
def F_X11_copy_138 (g : Nat × Nat) (a1 : Int32) (a2 : Int32) (a3 : Int32) (a4 : Int32) (a5 : Int32)  (x0 : Int32) (s : St) : Option (Int32 × St) := (F_X11_copy_143 g a1 a2 a3 a4 a5  fu x0 (0 : Int32) s)
set_option maxRecDepth 100000 in
set_option maxHeartbeats 4000000 in
theorem w_X11_copy_138 {Z : ZE} {l : Launch} (hZ : OkM Z) {a1 : Int32} {a2 : Int32} {a3 : Int32} {a4 : Int32} {a5 : Int32}  {R : Int32 × St}  (x0 : Int32)  (s : St) (hF : F_X11_copy_138 (zg Z) a1 a2 a3 a4 a5 x0 s = some R) : AW Z l iX11_copy (Pq (rI R)) 0 0 138 [(0, .ref (za Z 60 0)), (1, .int a1), (2, .int a2), (3, .int a3), (4, .int a4), (5, .int a5)] [.int x0] s := by
  unfold F_X11_copy_138 at hF
  refine a_istore [(6, .int x0), (0, .ref (za Z 60 0)), (1, .int a1), (2, .int a2), (3, .int a3), (4, .int a4), (5, .int a5)] dX11_copy_138 (by decide) rfl ?_
  refine a_iconst (v := (0 : Int32)) dX11_copy_140 (by decide) ?_
  refine a_istore [(7, .int (0 : Int32)), (6, .int x0), (0, .ref (za Z 60 0)), (1, .int a1), (2, .int a2), (3, .int a3), (4, .int a4), (5, .int a5)] dX11_copy_141 (by decide) rfl ?_
  refine a_loc [(0, .ref (za Z 60 0)), (1, .int a1), (2, .int a2), (3, .int a3), (4, .int a4), (5, .int a5), (6, .int x0), (7, .int (0 : Int32))] [2, 3, 4, 5, 6, 7, 1, 0] rfl ?_
  exact w_X11_copy_143 (l := l) hZ   fu x0 (0 : Int32)  _ hF
def F_X11_copy_121 (g : Nat × Nat) (a1 : Int32) (a2 : Int32) (a3 : Int32) (a4 : Int32) (a5 : Int32)   (s : St) : Option (Int32 × St) := (bd (F_X11_finding g (2 : Int32) s) (fun r123 s123 => (some (r123, s123))))
set_option maxRecDepth 100000 in
set_option maxHeartbeats 4000000 in
theorem w_X11_copy_121 {Z : ZE} {l : Launch} (hZ : OkM Z) {a1 : Int32} {a2 : Int32} {a3 : Int32} {a4 : Int32} {a5 : Int32}  {R : Int32 × St}    (s : St) (hF : F_X11_copy_121 (zg Z) a1 a2 a3 a4 a5  s = some R) : AW Z l iX11_copy (Pq (rI R)) 0 0 121 [(0, .ref (za Z 60 0))] [] s := by
  unfold F_X11_copy_121 at hF
  refine a_aload_n dX11_copy_121 0 rfl rfl ?_
  refine a_iconst (v := (2 : Int32)) dX11_copy_122 (by decide) ?_
  obtain ⟨r123, s123, e123, hF⟩ := bd_some hF
  refine a_invV hZ.1 (As := [.int (2 : Int32)]) (rest := []) (hZ.2 60 0 (by decide) (by decide) Nat.one_pos) lk_X11_137 ⟨⟨by decide, by decide⟩, by decide, by decide⟩ rfl (Nat.le_of_ble_eq_true rfl) dX11_copy_123 (m_X11_finding hZ  e123) ?_
  show AW Z l iX11_copy (Pq (rI R)) 0 0 126 [(0, .ref (za Z 60 0))] [.int r123] s123
  replace hF := Option.some.inj hF
  subst hF
  exact a_iret rfl (Nat.zero_le _) (Nat.zero_le _) dX11_copy_126 ⟨rfl, rfl⟩
def F_X11_copy_45 (g : Nat × Nat) (a1 : Int32) (a2 : Int32) (a3 : Int32) (a4 : Int32) (a5 : Int32)   (s : St) : Option (Int32 × St) := (bd (F_X11_finding g (1 : Int32) s) (fun r47 s47 => (some (r47, s47))))
set_option maxRecDepth 100000 in
set_option maxHeartbeats 4000000 in
theorem w_X11_copy_45 {Z : ZE} {l : Launch} (hZ : OkM Z) {a1 : Int32} {a2 : Int32} {a3 : Int32} {a4 : Int32} {a5 : Int32}  {R : Int32 × St}    (s : St) (hF : F_X11_copy_45 (zg Z) a1 a2 a3 a4 a5  s = some R) : AW Z l iX11_copy (Pq (rI R)) 0 0 45 [(0, .ref (za Z 60 0))] [] s := by
  unfold F_X11_copy_45 at hF
  refine a_aload_n dX11_copy_45 0 rfl rfl ?_
  refine a_iconst (v := (1 : Int32)) dX11_copy_46 (by decide) ?_
  obtain ⟨r47, s47, e47, hF⟩ := bd_some hF
  refine a_invV hZ.1 (As := [.int (1 : Int32)]) (rest := []) (hZ.2 60 0 (by decide) (by decide) Nat.one_pos) lk_X11_137 ⟨⟨by decide, by decide⟩, by decide, by decide⟩ rfl (Nat.le_of_ble_eq_true rfl) dX11_copy_47 (m_X11_finding hZ  e47) ?_
  show AW Z l iX11_copy (Pq (rI R)) 0 0 50 [(0, .ref (za Z 60 0))] [.int r47] s47
  replace hF := Option.some.inj hF
  subst hF
  exact a_iret rfl (Nat.zero_le _) (Nat.zero_le _) dX11_copy_50 ⟨rfl, rfl⟩
def F_X11_copy (g : Nat × Nat) (a1 : Int32) (a2 : Int32) (a3 : Int32) (a4 : Int32) (a5 : Int32)   (s : St) : Option (Int32 × St) := (bd (F_X11_isSheet g a1 (up s 60 0 0 (0 : Int32))) (fun r6 s6 => (if r6 = 0 then (some ((-1000001), s6)) else (bd (F_X11_isSheet g a3 s6) (fun r13 s13 => (if r13 = 0 then (some ((-1000001), s13)) else (gd (inb a1 8) (if (s13 61 0 a1.toNatClampNeg) < 0 then (F_X11_copy_45 g a1 a2 a3 a4 a5   (up s13 60 0 1 (0 : Int32))) else (gd (inb a3 8) (if 0 ≤ (s13 61 0 a3.toNatClampNeg) then (gd (inb a1 8) (gd (inb a3 8) (if (s13 61 0 a1.toNatClampNeg) = (s13 61 0 a3.toNatClampNeg) then (if a2 < 0 then (F_X11_copy_121 g a1 a2 a3 a4 a5   (up s13 60 0 1 (0 : Int32))) else (if a4 < 0 then (F_X11_copy_121 g a1 a2 a3 a4 a5   (up s13 60 0 1 (0 : Int32))) else (if a5 < 0 then (F_X11_copy_121 g a1 a2 a3 a4 a5   (up s13 60 0 1 (0 : Int32))) else (gd (inb a1 8) (if 0 < (lg_cmp (a2.toInt64 + a5.toInt64) (s13 62 0 a1.toNatClampNeg).toInt64) then (F_X11_copy_121 g a1 a2 a3 a4 a5   (up s13 60 0 1 (0 : Int32))) else (gd (inb a3 8) (if (lg_cmp (a4.toInt64 + a5.toInt64) (s13 62 0 a3.toNatClampNeg).toInt64) ≤ 0 then (if a2 < a4 then (F_X11_copy_138 g a1 a2 a3 a4 a5  (0 : Int32) (up s13 60 0 1 (0 : Int32))) else (F_X11_copy_138 g a1 a2 a3 a4 a5  (1 : Int32) (up s13 60 0 1 (0 : Int32)))) else (F_X11_copy_121 g a1 a2 a3 a4 a5   (up s13 60 0 1 (0 : Int32)))))))))) else (bd (F_X11_finding g (5 : Int32) (up s13 60 0 1 (0 : Int32))) (fun r68 s68 => (some (r68, s68))))))) else (F_X11_copy_45 g a1 a2 a3 a4 a5   (up s13 60 0 1 (0 : Int32)))))))))))))
set_option maxRecDepth 100000 in
set_option maxHeartbeats 4000000 in
theorem w_X11_copy {Z : ZE} {l : Launch} (hZ : OkM Z) {a1 : Int32} {a2 : Int32} {a3 : Int32} {a4 : Int32} {a5 : Int32}  {R : Int32 × St}    (s : St) (hF : F_X11_copy (zg Z) a1 a2 a3 a4 a5  s = some R) : AW Z l iX11_copy (Pq (rI R)) 0 0 0 [(0, .ref (za Z 60 0)), (1, .int a1), (2, .int a2), (3, .int a3), (4, .int a4), (5, .int a5)] [] s := by
  unfold F_X11_copy at hF
  refine a_aload_n dX11_copy_0 0 rfl rfl ?_
  refine a_iconst (v := (0 : Int32)) dX11_copy_1 (by decide) ?_
  refine a_put hZ.1 (hZ.2 60 0 (by decide) (by decide) Nat.one_pos) fl_X11_1 rfl rfl rfl dX11_copy_2 ?_
  refine a_iload_n dX11_copy_5 1 rfl rfl ?_
  obtain ⟨r6, s6, e6, hF⟩ := bd_some hF
  refine a_invS hZ.1 (As := [.int a1]) (rest := []) lk_X11_130 ⟨⟨by decide, by decide⟩, by decide, by decide⟩ rfl (Nat.le_of_ble_eq_true rfl) dX11_copy_6 (m_X11_isSheet hZ  e6) ?_
  show AW Z l iX11_copy (Pq (rI R)) 0 0 9 [(0, .ref (za Z 60 0)), (1, .int a1), (2, .int a2), (3, .int a3), (4, .int a4), (5, .int a5)] [.int r6] s6
  refine a_if_eq 19 dX11_copy_9 (by decide) (fun c1 => ?_) (fun c1 => ?_)
  · replace hF := (if_pos c1).symm.trans hF
    refine a_ldc (v := (-1000001)) kw_1136 dX11_copy_19 ?_
    replace hF := Option.some.inj hF
    subst hF
    exact a_iret rfl (Nat.zero_le _) (Nat.zero_le _) dX11_copy_21 ⟨rfl, rfl⟩
  · replace hF := (if_neg c1).symm.trans hF
    refine a_iload_n dX11_copy_12 3 rfl rfl ?_
    obtain ⟨r13, s13, e13, hF⟩ := bd_some hF
    refine a_invS hZ.1 (As := [.int a3]) (rest := []) lk_X11_130 ⟨⟨by decide, by decide⟩, by decide, by decide⟩ rfl (Nat.le_of_ble_eq_true rfl) dX11_copy_13 (m_X11_isSheet hZ  e13) ?_
    show AW Z l iX11_copy (Pq (rI R)) 0 0 16 [(0, .ref (za Z 60 0)), (1, .int a1), (2, .int a2), (3, .int a3), (4, .int a4), (5, .int a5)] [.int r13] s13
    refine a_if_ne 22 dX11_copy_16 (by decide) (fun c2 => ?_) (fun c2 => ?_)
    · replace hF := (if_neg c2).symm.trans hF
      refine a_aload_n dX11_copy_22 0 rfl rfl ?_
      refine a_iconst (v := (0 : Int32)) dX11_copy_23 (by decide) ?_
      refine a_put hZ.1 (hZ.2 60 0 (by decide) (by decide) Nat.one_pos) fl_X11_7 rfl rfl rfl dX11_copy_24 ?_
      refine a_aload_n dX11_copy_27 0 rfl rfl ?_
      refine a_getR hZ.1 (hZ.2 60 0 (by decide) (by decide) Nat.one_pos) fl_X11_17 rfl 0 rfl dX11_copy_28 ?_
      refine a_iload_n dX11_copy_31 1 rfl rfl ?_
      obtain ⟨b3, hF⟩ := gd_some hF
      refine a_iald hZ.1 (s13 61 0 a1.toNatClampNeg) (hZ.2 61 0 (by decide) (by decide) Nat.one_pos) rfl rfl (inb_vp b3) rfl dX11_copy_32 ?_
      refine a_if_lt 45 dX11_copy_33 (by decide) (fun c4 => ?_) (fun c4 => ?_)
      · replace hF := (if_pos c4).symm.trans hF
        refine a_loc [(0, .ref (za Z 60 0))] [0] rfl ?_
        exact w_X11_copy_45 (l := l) hZ     _ hF
      · replace hF := (if_neg c4).symm.trans hF
        refine a_aload_n dX11_copy_36 0 rfl rfl ?_
        refine a_getR hZ.1 (hZ.2 60 0 (by decide) (by decide) Nat.one_pos) fl_X11_17 rfl 0 rfl dX11_copy_37 ?_
        refine a_iload_n dX11_copy_40 3 rfl rfl ?_
        obtain ⟨b5, hF⟩ := gd_some hF
        refine a_iald hZ.1 (s13 61 0 a3.toNatClampNeg) (hZ.2 61 0 (by decide) (by decide) Nat.one_pos) rfl rfl (inb_vp b5) rfl dX11_copy_41 ?_
        refine a_if_ge 51 dX11_copy_42 (by decide) (fun c6 => ?_) (fun c6 => ?_)
        · replace hF := (if_pos c6).symm.trans hF
          refine a_aload_n dX11_copy_51 0 rfl rfl ?_
          refine a_getR hZ.1 (hZ.2 60 0 (by decide) (by decide) Nat.one_pos) fl_X11_17 rfl 0 rfl dX11_copy_52 ?_
          refine a_iload_n dX11_copy_55 1 rfl rfl ?_
          obtain ⟨b7, hF⟩ := gd_some hF
          refine a_iald hZ.1 (s13 61 0 a1.toNatClampNeg) (hZ.2 61 0 (by decide) (by decide) Nat.one_pos) rfl rfl (inb_vp b7) rfl dX11_copy_56 ?_
          refine a_aload_n dX11_copy_57 0 rfl rfl ?_
          refine a_getR hZ.1 (hZ.2 60 0 (by decide) (by decide) Nat.one_pos) fl_X11_17 rfl 0 rfl dX11_copy_58 ?_
          refine a_iload_n dX11_copy_61 3 rfl rfl ?_
          obtain ⟨b8, hF⟩ := gd_some hF
          refine a_iald hZ.1 (s13 61 0 a3.toNatClampNeg) (hZ.2 61 0 (by decide) (by decide) Nat.one_pos) rfl rfl (inb_vp b8) rfl dX11_copy_62 ?_
          refine a_icmp_eq 72 dX11_copy_63 (by decide) (fun c9 => ?_) (fun c9 => ?_)
          · replace hF := (if_pos c9).symm.trans hF
            refine a_iload_n dX11_copy_72 2 rfl rfl ?_
            refine a_if_lt 121 dX11_copy_73 (by decide) (fun c10 => ?_) (fun c10 => ?_)
            · replace hF := (if_pos c10).symm.trans hF
              refine a_loc [(0, .ref (za Z 60 0))] [0] rfl ?_
              exact w_X11_copy_121 (l := l) hZ     _ hF
            · replace hF := (if_neg c10).symm.trans hF
              refine a_iload dX11_copy_76 4 rfl ?_
              refine a_if_lt 121 dX11_copy_78 (by decide) (fun c11 => ?_) (fun c11 => ?_)
              · replace hF := (if_pos c11).symm.trans hF
                refine a_loc [(0, .ref (za Z 60 0))] [0] rfl ?_
                exact w_X11_copy_121 (l := l) hZ     _ hF
              · replace hF := (if_neg c11).symm.trans hF
                refine a_iload dX11_copy_81 5 rfl ?_
                refine a_if_lt 121 dX11_copy_83 (by decide) (fun c12 => ?_) (fun c12 => ?_)
                · replace hF := (if_pos c12).symm.trans hF
                  refine a_loc [(0, .ref (za Z 60 0))] [0] rfl ?_
                  exact w_X11_copy_121 (l := l) hZ     _ hF
                · replace hF := (if_neg c12).symm.trans hF
                  refine a_iload_n dX11_copy_86 2 rfl rfl ?_
                  refine a_i2l dX11_copy_87 ?_
                  refine a_iload dX11_copy_88 5 rfl ?_
                  refine a_i2l dX11_copy_90 ?_
                  refine a_ladd dX11_copy_91 ?_
                  refine a_aload_n dX11_copy_92 0 rfl rfl ?_
                  refine a_getR hZ.1 (hZ.2 60 0 (by decide) (by decide) Nat.one_pos) fl_X11_21 rfl 0 rfl dX11_copy_93 ?_
                  refine a_iload_n dX11_copy_96 1 rfl rfl ?_
                  obtain ⟨b13, hF⟩ := gd_some hF
                  refine a_iald hZ.1 (s13 62 0 a1.toNatClampNeg) (hZ.2 62 0 (by decide) (by decide) Nat.one_pos) rfl rfl (inb_vp b13) rfl dX11_copy_97 ?_
                  refine a_i2l dX11_copy_98 ?_
                  refine a_lcmp dX11_copy_99 ?_
                  refine a_if_gt 121 dX11_copy_100 (by decide) (fun c14 => ?_) (fun c14 => ?_)
                  · replace hF := (if_pos c14).symm.trans hF
                    refine a_loc [(0, .ref (za Z 60 0))] [0] rfl ?_
                    exact w_X11_copy_121 (l := l) hZ     _ hF
                  · replace hF := (if_neg c14).symm.trans hF
                    refine a_iload dX11_copy_103 4 rfl ?_
                    refine a_i2l dX11_copy_105 ?_
                    refine a_iload dX11_copy_106 5 rfl ?_
                    refine a_i2l dX11_copy_108 ?_
                    refine a_ladd dX11_copy_109 ?_
                    refine a_aload_n dX11_copy_110 0 rfl rfl ?_
                    refine a_getR hZ.1 (hZ.2 60 0 (by decide) (by decide) Nat.one_pos) fl_X11_21 rfl 0 rfl dX11_copy_111 ?_
                    refine a_iload_n dX11_copy_114 3 rfl rfl ?_
                    obtain ⟨b15, hF⟩ := gd_some hF
                    refine a_iald hZ.1 (s13 62 0 a3.toNatClampNeg) (hZ.2 62 0 (by decide) (by decide) Nat.one_pos) rfl rfl (inb_vp b15) rfl dX11_copy_115 ?_
                    refine a_i2l dX11_copy_116 ?_
                    refine a_lcmp dX11_copy_117 ?_
                    refine a_if_le 127 dX11_copy_118 (by decide) (fun c16 => ?_) (fun c16 => ?_)
                    · replace hF := (if_pos c16).symm.trans hF
                      refine a_iload_n dX11_copy_127 2 rfl rfl ?_
                      refine a_iload dX11_copy_128 4 rfl ?_
                      refine a_icmp_lt 137 dX11_copy_130 (by decide) (fun c17 => ?_) (fun c17 => ?_)
                      · replace hF := (if_pos c17).symm.trans hF
                        refine a_iconst (v := (0 : Int32)) dX11_copy_137 (by decide) ?_
                        exact w_X11_copy_138 (l := l) hZ   (0 : Int32)  _ hF
                      · replace hF := (if_neg c17).symm.trans hF
                        refine a_iconst (v := (1 : Int32)) dX11_copy_133 (by decide) ?_
                        refine a_goto 138 dX11_copy_134 (by decide) ?_
                        exact w_X11_copy_138 (l := l) hZ   (1 : Int32)  _ hF
                    · replace hF := (if_neg c16).symm.trans hF
                      refine a_loc [(0, .ref (za Z 60 0))] [0] rfl ?_
                      exact w_X11_copy_121 (l := l) hZ     _ hF
          · replace hF := (if_neg c9).symm.trans hF
            refine a_aload_n dX11_copy_66 0 rfl rfl ?_
            refine a_iconst (v := (5 : Int32)) dX11_copy_67 (by decide) ?_
            obtain ⟨r68, s68, e68, hF⟩ := bd_some hF
            refine a_invV hZ.1 (As := [.int (5 : Int32)]) (rest := []) (hZ.2 60 0 (by decide) (by decide) Nat.one_pos) lk_X11_137 ⟨⟨by decide, by decide⟩, by decide, by decide⟩ rfl (Nat.le_of_ble_eq_true rfl) dX11_copy_68 (m_X11_finding hZ  e68) ?_
            show AW Z l iX11_copy (Pq (rI R)) 0 0 71 [(0, .ref (za Z 60 0)), (1, .int a1), (2, .int a2), (3, .int a3), (4, .int a4), (5, .int a5)] [.int r68] s68
            replace hF := Option.some.inj hF
            subst hF
            exact a_iret rfl (Nat.zero_le _) (Nat.zero_le _) dX11_copy_71 ⟨rfl, rfl⟩
        · replace hF := (if_neg c6).symm.trans hF
          refine a_loc [(0, .ref (za Z 60 0))] [0] rfl ?_
          exact w_X11_copy_45 (l := l) hZ     _ hF
    · replace hF := (if_pos c2).symm.trans hF
      refine a_ldc (v := (-1000001)) kw_1136 dX11_copy_19 ?_
      replace hF := Option.some.inj hF
      subst hF
      exact a_iret rfl (Nat.zero_le _) (Nat.zero_le _) dX11_copy_21 ⟨rfl, rfl⟩
theorem m_X11_copy {Z : ZE} {l : Launch} (hZ : OkM Z) {a1 : Int32} {a2 : Int32} {a3 : Int32} {a4 : Int32} {a5 : Int32}  {s : St} {R : Int32 × St} (hF : F_X11_copy (zg Z) a1 a2 a3 a4 a5 s = some R) : Sp Z l yX11_copy iX11_copy [.ref (za Z 60 0), .int a1, .int a2, .int a3, .int a4, .int a5] s (rI R) :=
  Sp.of (by decide) rfl (Nat.le_of_ble_eq_true rfl) (w_X11_copy hZ  s hF)
-- X11_count
def F_X11_count_173 (g : Nat × Nat) (a1 : Int32)  : Nat → Int32 → Int32 → St → Option (Int32 × St)
  | 0, _, _, _ => none
  | n_ + 1, v2, v3, s => (if (4 : Int32) ≤ v3 then (some (v2, s)) else (bd (F_X11_balesOf g v3 s) (fun r181 s181 => (F_X11_count_173 g a1  n_ (v2 + r181) (v3 + 1) s181))))
set_option maxRecDepth 100000 in
set_option maxHeartbeats 4000000 in
theorem w_X11_count_173 {Z : ZE} {l : Launch} (hZ : OkM Z) {a1 : Int32}  {R : Int32 × St}  : ∀ (n_ : Nat) (v2 : Int32) (v3 : Int32)  (s : St), F_X11_count_173 (zg Z) a1 n_ v2 v3 s = some R → AW Z l iX11_count (Pq (rI R)) 0 0 173 [(0, .ref (za Z 60 0)), (2, .int v2), (3, .int v3)] [] s := by
  intro n_
  induction n_ with
  | zero =>
    intro v2 v3 s hF
    exact absurd hF (by rw [F_X11_count_173]; exact fun q => by cases q)
  | succ n_ w173_ =>
    intro v2 v3 s hF
    rw [F_X11_count_173] at hF
    refine a_iload_n dX11_count_173 2 rfl rfl ?_
    refine a_iconst (v := (4 : Int32)) dX11_count_174 (by decide) ?_
    refine a_icmp_ge 192 dX11_count_175 (by decide) (fun c1 => ?_) (fun c1 => ?_)
    · replace hF := (if_pos c1).symm.trans hF
      refine a_iload_n dX11_count_192 1 rfl rfl ?_
      replace hF := Option.some.inj hF
      subst hF
      exact a_iret rfl (Nat.zero_le _) (Nat.zero_le _) dX11_count_193 ⟨rfl, rfl⟩
    · replace hF := (if_neg c1).symm.trans hF
      refine a_iload_n dX11_count_178 1 rfl rfl ?_
      refine a_aload_n dX11_count_179 0 rfl rfl ?_
      refine a_iload_n dX11_count_180 2 rfl rfl ?_
      obtain ⟨r181, s181, e181, hF⟩ := bd_some hF
      refine a_invV hZ.1 (As := [.int v3]) (rest := [.int v2]) (hZ.2 60 0 (by decide) (by decide) Nat.one_pos) lk_X11_182 ⟨⟨by decide, by decide⟩, by decide, by decide⟩ rfl (Nat.le_of_ble_eq_true rfl) dX11_count_181 (m_X11_balesOf hZ  e181) ?_
      show AW Z l iX11_count (Pq (rI R)) 0 0 184 [(0, .ref (za Z 60 0)), (2, .int v2), (3, .int v3)] [.int r181, .int v2] s181
      refine a_iadd dX11_count_184 ?_
      refine a_istore_n [(2, .int (v2 + r181)), (0, .ref (za Z 60 0)), (3, .int v3)] dX11_count_185 rfl (by decide) rfl ?_
      refine a_iinc [(3, .int (v3 + 1)), (2, .int (v2 + r181)), (0, .ref (za Z 60 0))] dX11_count_186 2 rfl rfl (by decide) rfl ?_
      refine a_goto 173 dX11_count_189 (by decide) ?_
      refine a_loc [(0, .ref (za Z 60 0)), (2, .int (v2 + r181)), (3, .int (v3 + 1))] [2, 1, 0] rfl ?_
      exact w173_ (v2 + r181) (v3 + 1)  _ hF
def F_X11_count_151 (g : Nat × Nat) (a1 : Int32) (h124_ : Int32 → Int32 → St → Option (Int32 × St)) (v3 : Int32) (x0 : Int32) (x1 : Int32) (s : St) : Option (Int32 × St) := (h124_ (x0 + x1) (v3 + 1) s)
set_option maxRecDepth 100000 in
set_option maxHeartbeats 4000000 in
theorem w_X11_count_151 {Z : ZE} {l : Launch} (hZ : OkM Z) {a1 : Int32}  {R : Int32 × St} (h124_ : Int32 → Int32 → St → Option (Int32 × St)) (w124_ : ∀ (v2 : Int32) (v3 : Int32)  (s : St), h124_ v2 v3 s = some R → AW Z l iX11_count (Pq (rI R)) 0 0 124 [(0, .ref (za Z 60 0)), (2, .int v2), (3, .int v3)] [] s) (v3 : Int32) (x0 : Int32) (x1 : Int32)  (s : St) (hF : F_X11_count_151 (zg Z) a1 h124_ v3 x0 x1 s = some R) : AW Z l iX11_count (Pq (rI R)) 0 0 151 [(0, .ref (za Z 60 0)), (3, .int v3)] [.int x1, .int x0] s := by
  unfold F_X11_count_151 at hF
  refine a_iadd dX11_count_151 ?_
  refine a_istore_n [(2, .int (x0 + x1)), (0, .ref (za Z 60 0)), (3, .int v3)] dX11_count_152 rfl (by decide) rfl ?_
  refine a_iinc [(3, .int (v3 + 1)), (2, .int (x0 + x1)), (0, .ref (za Z 60 0))] dX11_count_153 2 rfl rfl (by decide) rfl ?_
  refine a_goto 124 dX11_count_156 (by decide) ?_
  refine a_loc [(0, .ref (za Z 60 0)), (2, .int (x0 + x1)), (3, .int (v3 + 1))] [2, 1, 0] rfl ?_
  exact w124_ (x0 + x1) (v3 + 1)  _ hF
def F_X11_count_124 (g : Nat × Nat) (a1 : Int32)  : Nat → Int32 → Int32 → St → Option (Int32 × St)
  | 0, _, _, _ => none
  | n_ + 1, v2, v3, s => (if (s 60 0 47) ≤ v3 then (some (v2, s)) else (gd (inb v3 16) (bd (F_X11_isOf g (s 88 0 v3.toNatClampNeg) (2 : Int32) s) (fun r140 s140 => (if r140 = 0 then (F_X11_count_151 g a1 (F_X11_count_124 g a1  n_) v3 v2 (0 : Int32) s140) else (F_X11_count_151 g a1 (F_X11_count_124 g a1  n_) v3 v2 (1 : Int32) s140))))))
set_option maxRecDepth 100000 in
set_option maxHeartbeats 4000000 in
theorem w_X11_count_124 {Z : ZE} {l : Launch} (hZ : OkM Z) {a1 : Int32}  {R : Int32 × St}  : ∀ (n_ : Nat) (v2 : Int32) (v3 : Int32)  (s : St), F_X11_count_124 (zg Z) a1 n_ v2 v3 s = some R → AW Z l iX11_count (Pq (rI R)) 0 0 124 [(0, .ref (za Z 60 0)), (2, .int v2), (3, .int v3)] [] s := by
  intro n_
  induction n_ with
  | zero =>
    intro v2 v3 s hF
    exact absurd hF (by rw [F_X11_count_124]; exact fun q => by cases q)
  | succ n_ w124_ =>
    intro v2 v3 s hF
    rw [F_X11_count_124] at hF
    refine a_iload_n dX11_count_124 2 rfl rfl ?_
    refine a_aload_n dX11_count_125 0 rfl rfl ?_
    refine a_getI hZ.1 (s 60 0 47) (hZ.2 60 0 (by decide) (by decide) Nat.one_pos) fl_X11_326 rfl rfl dX11_count_126 ?_
    refine a_icmp_ge 159 dX11_count_129 (by decide) (fun c1 => ?_) (fun c1 => ?_)
    · replace hF := (if_pos c1).symm.trans hF
      refine a_iload_n dX11_count_159 1 rfl rfl ?_
      replace hF := Option.some.inj hF
      subst hF
      exact a_iret rfl (Nat.zero_le _) (Nat.zero_le _) dX11_count_160 ⟨rfl, rfl⟩
    · replace hF := (if_neg c1).symm.trans hF
      refine a_iload_n dX11_count_132 1 rfl rfl ?_
      refine a_aload_n dX11_count_133 0 rfl rfl ?_
      refine a_getR hZ.1 (hZ.2 60 0 (by decide) (by decide) Nat.one_pos) fl_X11_103 rfl 0 rfl dX11_count_134 ?_
      refine a_iload_n dX11_count_137 2 rfl rfl ?_
      obtain ⟨b2, hF⟩ := gd_some hF
      refine a_iald hZ.1 (s 88 0 v3.toNatClampNeg) (hZ.2 88 0 (by decide) (by decide) Nat.one_pos) rfl rfl (inb_vp b2) rfl dX11_count_138 ?_
      refine a_iconst (v := (2 : Int32)) dX11_count_139 (by decide) ?_
      obtain ⟨r140, s140, e140, hF⟩ := bd_some hF
      refine a_invS hZ.1 (As := [.int (s 88 0 v3.toNatClampNeg), .int (2 : Int32)]) (rest := [.int v2]) lk_X11_337 ⟨⟨by decide, by decide⟩, by decide, by decide⟩ rfl (Nat.le_of_ble_eq_true rfl) dX11_count_140 (m_X11_isOf hZ  e140) ?_
      show AW Z l iX11_count (Pq (rI R)) 0 0 143 [(0, .ref (za Z 60 0)), (2, .int v2), (3, .int v3)] [.int r140, .int v2] s140
      refine a_if_eq 150 dX11_count_143 (by decide) (fun c3 => ?_) (fun c3 => ?_)
      · replace hF := (if_pos c3).symm.trans hF
        refine a_iconst (v := (0 : Int32)) dX11_count_150 (by decide) ?_
        refine a_loc [(0, .ref (za Z 60 0)), (3, .int v3)] [0, 2] rfl ?_
        exact w_X11_count_151 (l := l) hZ  (F_X11_count_124 (zg Z) a1 n_) w124_ v3 v2 (0 : Int32)  _ hF
      · replace hF := (if_neg c3).symm.trans hF
        refine a_iconst (v := (1 : Int32)) dX11_count_146 (by decide) ?_
        refine a_goto 151 dX11_count_147 (by decide) ?_
        refine a_loc [(0, .ref (za Z 60 0)), (3, .int v3)] [0, 2] rfl ?_
        exact w_X11_count_151 (l := l) hZ  (F_X11_count_124 (zg Z) a1 n_) w124_ v3 v2 (1 : Int32)  _ hF
def F_X11_count_87 (g : Nat × Nat) (a1 : Int32) (h66_ : Int32 → Int32 → St → Option (Int32 × St)) (v3 : Int32) (x0 : Int32) (x1 : Int32) (s : St) : Option (Int32 × St) := (h66_ (x0 + x1) (v3 + 1) s)
set_option maxRecDepth 100000 in
set_option maxHeartbeats 4000000 in
theorem w_X11_count_87 {Z : ZE} {l : Launch} (hZ : OkM Z) {a1 : Int32}  {R : Int32 × St} (h66_ : Int32 → Int32 → St → Option (Int32 × St)) (w66_ : ∀ (v2 : Int32) (v3 : Int32)  (s : St), h66_ v2 v3 s = some R → AW Z l iX11_count (Pq (rI R)) 0 0 66 [(0, .ref (za Z 60 0)), (2, .int v2), (3, .int v3)] [] s) (v3 : Int32) (x0 : Int32) (x1 : Int32)  (s : St) (hF : F_X11_count_87 (zg Z) a1 h66_ v3 x0 x1 s = some R) : AW Z l iX11_count (Pq (rI R)) 0 0 87 [(0, .ref (za Z 60 0)), (3, .int v3)] [.int x1, .int x0] s := by
  unfold F_X11_count_87 at hF
  refine a_iadd dX11_count_87 ?_
  refine a_istore_n [(2, .int (x0 + x1)), (0, .ref (za Z 60 0)), (3, .int v3)] dX11_count_88 rfl (by decide) rfl ?_
  refine a_iinc [(3, .int (v3 + 1)), (2, .int (x0 + x1)), (0, .ref (za Z 60 0))] dX11_count_89 2 rfl rfl (by decide) rfl ?_
  refine a_goto 66 dX11_count_92 (by decide) ?_
  refine a_loc [(0, .ref (za Z 60 0)), (2, .int (x0 + x1)), (3, .int (v3 + 1))] [2, 1, 0] rfl ?_
  exact w66_ (x0 + x1) (v3 + 1)  _ hF
def F_X11_count_66 (g : Nat × Nat) (a1 : Int32)  : Nat → Int32 → Int32 → St → Option (Int32 × St)
  | 0, _, _, _ => none
  | n_ + 1, v2, v3, s => (if (8 : Int32) ≤ v3 then (some (v2, s)) else (gd (inb v3 8) (if (s 61 0 v3.toNatClampNeg) < 0 then (F_X11_count_87 g a1 (F_X11_count_66 g a1  n_) v3 v2 (0 : Int32) s) else (F_X11_count_87 g a1 (F_X11_count_66 g a1  n_) v3 v2 (1 : Int32) s))))
set_option maxRecDepth 100000 in
set_option maxHeartbeats 4000000 in
theorem w_X11_count_66 {Z : ZE} {l : Launch} (hZ : OkM Z) {a1 : Int32}  {R : Int32 × St}  : ∀ (n_ : Nat) (v2 : Int32) (v3 : Int32)  (s : St), F_X11_count_66 (zg Z) a1 n_ v2 v3 s = some R → AW Z l iX11_count (Pq (rI R)) 0 0 66 [(0, .ref (za Z 60 0)), (2, .int v2), (3, .int v3)] [] s := by
  intro n_
  induction n_ with
  | zero =>
    intro v2 v3 s hF
    exact absurd hF (by rw [F_X11_count_66]; exact fun q => by cases q)
  | succ n_ w66_ =>
    intro v2 v3 s hF
    rw [F_X11_count_66] at hF
    refine a_iload_n dX11_count_66 2 rfl rfl ?_
    refine a_bipush (v := (8 : Int32)) dX11_count_67 (by decide) ?_
    refine a_icmp_ge 95 dX11_count_69 (by decide) (fun c1 => ?_) (fun c1 => ?_)
    · replace hF := (if_pos c1).symm.trans hF
      refine a_iload_n dX11_count_95 1 rfl rfl ?_
      replace hF := Option.some.inj hF
      subst hF
      exact a_iret rfl (Nat.zero_le _) (Nat.zero_le _) dX11_count_96 ⟨rfl, rfl⟩
    · replace hF := (if_neg c1).symm.trans hF
      refine a_iload_n dX11_count_72 1 rfl rfl ?_
      refine a_aload_n dX11_count_73 0 rfl rfl ?_
      refine a_getR hZ.1 (hZ.2 60 0 (by decide) (by decide) Nat.one_pos) fl_X11_17 rfl 0 rfl dX11_count_74 ?_
      refine a_iload_n dX11_count_77 2 rfl rfl ?_
      obtain ⟨b2, hF⟩ := gd_some hF
      refine a_iald hZ.1 (s 61 0 v3.toNatClampNeg) (hZ.2 61 0 (by decide) (by decide) Nat.one_pos) rfl rfl (inb_vp b2) rfl dX11_count_78 ?_
      refine a_if_lt 86 dX11_count_79 (by decide) (fun c3 => ?_) (fun c3 => ?_)
      · replace hF := (if_pos c3).symm.trans hF
        refine a_iconst (v := (0 : Int32)) dX11_count_86 (by decide) ?_
        refine a_loc [(0, .ref (za Z 60 0)), (3, .int v3)] [0, 2] rfl ?_
        exact w_X11_count_87 (l := l) hZ  (F_X11_count_66 (zg Z) a1 n_) w66_ v3 v2 (0 : Int32)  _ hF
      · replace hF := (if_neg c3).symm.trans hF
        refine a_iconst (v := (1 : Int32)) dX11_count_82 (by decide) ?_
        refine a_goto 87 dX11_count_83 (by decide) ?_
        refine a_loc [(0, .ref (za Z 60 0)), (3, .int v3)] [0, 2] rfl ?_
        exact w_X11_count_87 (l := l) hZ  (F_X11_count_66 (zg Z) a1 n_) w66_ v3 v2 (1 : Int32)  _ hF
def F_X11_count (g : Nat × Nat) (a1 : Int32)   (s : St) : Option (Int32 × St) := (if a1 = 0 then (F_X11_count_66 g a1  fu (0 : Int32) (0 : Int32) (up s 60 0 0 (0 : Int32))) else (if a1 = 1 then (some ((s 60 0 15), (up s 60 0 0 (0 : Int32)))) else (if a1 = 2 then (some ((s 60 0 42), (up s 60 0 0 (0 : Int32)))) else (if a1 = 3 then (some ((s 60 0 11), (up s 60 0 0 (0 : Int32)))) else (if a1 = 4 then (some ((s 60 0 24), (up s 60 0 0 (0 : Int32)))) else (if a1 = 5 then (some ((s 60 0 47), (up s 60 0 0 (0 : Int32)))) else (if a1 = 6 then (F_X11_count_124 g a1  fu (0 : Int32) (0 : Int32) (up s 60 0 0 (0 : Int32))) else (if a1 = 7 then (some ((s 60 0 10), (up s 60 0 0 (0 : Int32)))) else (if a1 = 8 then (some ((s 60 0 31), (up s 60 0 0 (0 : Int32)))) else (if a1 = 9 then (F_X11_count_173 g a1  fu (0 : Int32) (0 : Int32) (up s 60 0 0 (0 : Int32))) else (some ((-1000001), (up s 60 0 0 (0 : Int32))))))))))))))
set_option maxRecDepth 100000 in
set_option maxHeartbeats 4000000 in
theorem w_X11_count {Z : ZE} {l : Launch} (hZ : OkM Z) {a1 : Int32}  {R : Int32 × St}    (s : St) (hF : F_X11_count (zg Z) a1  s = some R) : AW Z l iX11_count (Pq (rI R)) 0 0 0 [(0, .ref (za Z 60 0)), (1, .int a1)] [] s := by
  unfold F_X11_count at hF
  refine a_aload_n dX11_count_0 0 rfl rfl ?_
  refine a_iconst (v := (0 : Int32)) dX11_count_1 (by decide) ?_
  refine a_put hZ.1 (hZ.2 60 0 (by decide) (by decide) Nat.one_pos) fl_X11_1 rfl rfl rfl dX11_count_2 ?_
  refine a_iconst (v := (0 : Int32)) dX11_count_5 (by decide) ?_
  refine a_istore_n [(2, .int (0 : Int32)), (0, .ref (za Z 60 0)), (1, .int a1)] dX11_count_6 rfl (by decide) rfl ?_
  refine a_iload_n dX11_count_7 2 rfl rfl ?_
  by_cases c1 : a1 = 0
  · replace hF := (if_pos c1).symm.trans hF
    refine a_tableIn 64 dX11_count_8 (by rw [c1]; decide) (by rw [c1]; decide) (by rw [c1]; rfl) (by decide) ?_
    refine a_iconst (v := (0 : Int32)) dX11_count_64 (by decide) ?_
    refine a_istore_n [(3, .int (0 : Int32)), (2, .int (0 : Int32)), (0, .ref (za Z 60 0)), (1, .int a1)] dX11_count_65 rfl (by decide) rfl ?_
    refine a_loc [(0, .ref (za Z 60 0)), (2, .int (0 : Int32)), (3, .int (0 : Int32))] [2, 1, 0] rfl ?_
    exact w_X11_count_66 (l := l) hZ   fu (0 : Int32) (0 : Int32)  _ hF
  replace hF := (if_neg c1).symm.trans hF
  by_cases c2 : a1 = 1
  · replace hF := (if_pos c2).symm.trans hF
    refine a_tableIn 97 dX11_count_8 (by rw [c2]; decide) (by rw [c2]; decide) (by rw [c2]; rfl) (by decide) ?_
    refine a_aload_n dX11_count_97 1 rfl rfl ?_
    refine a_getI hZ.1 (s 60 0 15) (hZ.2 60 0 (by decide) (by decide) Nat.one_pos) fl_X11_145 rfl (by simp [up]) dX11_count_98 ?_
    replace hF := Option.some.inj hF
    subst hF
    exact a_iret rfl (Nat.zero_le _) (Nat.zero_le _) dX11_count_101 ⟨rfl, rfl⟩
  replace hF := (if_neg c2).symm.trans hF
  by_cases c3 : a1 = 2
  · replace hF := (if_pos c3).symm.trans hF
    refine a_tableIn 102 dX11_count_8 (by rw [c3]; decide) (by rw [c3]; decide) (by rw [c3]; rfl) (by decide) ?_
    refine a_aload_n dX11_count_102 1 rfl rfl ?_
    refine a_getI hZ.1 (s 60 0 42) (hZ.2 60 0 (by decide) (by decide) Nat.one_pos) fl_X11_202 rfl (by simp [up]) dX11_count_103 ?_
    replace hF := Option.some.inj hF
    subst hF
    exact a_iret rfl (Nat.zero_le _) (Nat.zero_le _) dX11_count_106 ⟨rfl, rfl⟩
  replace hF := (if_neg c3).symm.trans hF
  by_cases c4 : a1 = 3
  · replace hF := (if_pos c4).symm.trans hF
    refine a_tableIn 107 dX11_count_8 (by rw [c4]; decide) (by rw [c4]; decide) (by rw [c4]; rfl) (by decide) ?_
    refine a_aload_n dX11_count_107 1 rfl rfl ?_
    refine a_getI hZ.1 (s 60 0 11) (hZ.2 60 0 (by decide) (by decide) Nat.one_pos) fl_X11_169 rfl (by simp [up]) dX11_count_108 ?_
    replace hF := Option.some.inj hF
    subst hF
    exact a_iret rfl (Nat.zero_le _) (Nat.zero_le _) dX11_count_111 ⟨rfl, rfl⟩
  replace hF := (if_neg c4).symm.trans hF
  by_cases c5 : a1 = 4
  · replace hF := (if_pos c5).symm.trans hF
    refine a_tableIn 112 dX11_count_8 (by rw [c5]; decide) (by rw [c5]; decide) (by rw [c5]; rfl) (by decide) ?_
    refine a_aload_n dX11_count_112 1 rfl rfl ?_
    refine a_getI hZ.1 (s 60 0 24) (hZ.2 60 0 (by decide) (by decide) Nat.one_pos) fl_X11_286 rfl (by simp [up]) dX11_count_113 ?_
    replace hF := Option.some.inj hF
    subst hF
    exact a_iret rfl (Nat.zero_le _) (Nat.zero_le _) dX11_count_116 ⟨rfl, rfl⟩
  replace hF := (if_neg c5).symm.trans hF
  by_cases c6 : a1 = 5
  · replace hF := (if_pos c6).symm.trans hF
    refine a_tableIn 117 dX11_count_8 (by rw [c6]; decide) (by rw [c6]; decide) (by rw [c6]; rfl) (by decide) ?_
    refine a_aload_n dX11_count_117 1 rfl rfl ?_
    refine a_getI hZ.1 (s 60 0 47) (hZ.2 60 0 (by decide) (by decide) Nat.one_pos) fl_X11_326 rfl (by simp [up]) dX11_count_118 ?_
    replace hF := Option.some.inj hF
    subst hF
    exact a_iret rfl (Nat.zero_le _) (Nat.zero_le _) dX11_count_121 ⟨rfl, rfl⟩
  replace hF := (if_neg c6).symm.trans hF
  by_cases c7 : a1 = 6
  · replace hF := (if_pos c7).symm.trans hF
    refine a_tableIn 122 dX11_count_8 (by rw [c7]; decide) (by rw [c7]; decide) (by rw [c7]; rfl) (by decide) ?_
    refine a_iconst (v := (0 : Int32)) dX11_count_122 (by decide) ?_
    refine a_istore_n [(3, .int (0 : Int32)), (2, .int (0 : Int32)), (0, .ref (za Z 60 0)), (1, .int a1)] dX11_count_123 rfl (by decide) rfl ?_
    refine a_loc [(0, .ref (za Z 60 0)), (2, .int (0 : Int32)), (3, .int (0 : Int32))] [2, 1, 0] rfl ?_
    exact w_X11_count_124 (l := l) hZ   fu (0 : Int32) (0 : Int32)  _ hF
  replace hF := (if_neg c7).symm.trans hF
  by_cases c8 : a1 = 7
  · replace hF := (if_pos c8).symm.trans hF
    refine a_tableIn 161 dX11_count_8 (by rw [c8]; decide) (by rw [c8]; decide) (by rw [c8]; rfl) (by decide) ?_
    refine a_aload_n dX11_count_161 1 rfl rfl ?_
    refine a_getI hZ.1 (s 60 0 10) (hZ.2 60 0 (by decide) (by decide) Nat.one_pos) fl_X11_188 rfl (by simp [up]) dX11_count_162 ?_
    replace hF := Option.some.inj hF
    subst hF
    exact a_iret rfl (Nat.zero_le _) (Nat.zero_le _) dX11_count_165 ⟨rfl, rfl⟩
  replace hF := (if_neg c8).symm.trans hF
  by_cases c9 : a1 = 8
  · replace hF := (if_pos c9).symm.trans hF
    refine a_tableIn 166 dX11_count_8 (by rw [c9]; decide) (by rw [c9]; decide) (by rw [c9]; rfl) (by decide) ?_
    refine a_aload_n dX11_count_166 1 rfl rfl ?_
    refine a_getI hZ.1 (s 60 0 31) (hZ.2 60 0 (by decide) (by decide) Nat.one_pos) fl_X11_217 rfl (by simp [up]) dX11_count_167 ?_
    replace hF := Option.some.inj hF
    subst hF
    exact a_iret rfl (Nat.zero_le _) (Nat.zero_le _) dX11_count_170 ⟨rfl, rfl⟩
  replace hF := (if_neg c9).symm.trans hF
  by_cases c10 : a1 = 9
  · replace hF := (if_pos c10).symm.trans hF
    refine a_tableIn 171 dX11_count_8 (by rw [c10]; decide) (by rw [c10]; decide) (by rw [c10]; rfl) (by decide) ?_
    refine a_iconst (v := (0 : Int32)) dX11_count_171 (by decide) ?_
    refine a_istore_n [(3, .int (0 : Int32)), (2, .int (0 : Int32)), (0, .ref (za Z 60 0)), (1, .int a1)] dX11_count_172 rfl (by decide) rfl ?_
    refine a_loc [(0, .ref (za Z 60 0)), (2, .int (0 : Int32)), (3, .int (0 : Int32))] [2, 1, 0] rfl ?_
    exact w_X11_count_173 (l := l) hZ   fu (0 : Int32) (0 : Int32)  _ hF
  replace hF := (if_neg c10).symm.trans hF
  refine a_tableOut 194 dX11_count_8 (by have q0 : (a1).toInt ≠ 0 := ne_ti c1; have q1 : (a1).toInt ≠ 1 := ne_ti c2; have q2 : (a1).toInt ≠ 2 := ne_ti c3; have q3 : (a1).toInt ≠ 3 := ne_ti c4; have q4 : (a1).toInt ≠ 4 := ne_ti c5; have q5 : (a1).toInt ≠ 5 := ne_ti c6; have q6 : (a1).toInt ≠ 6 := ne_ti c7; have q7 : (a1).toInt ≠ 7 := ne_ti c8; have q8 : (a1).toInt ≠ 8 := ne_ti c9; have q9 : (a1).toInt ≠ 9 := ne_ti c10; omega) (by decide) ?_
  refine a_ldc (v := (-1000001)) kw_1136 dX11_count_194 ?_
  replace hF := Option.some.inj hF
  subst hF
  exact a_iret rfl (Nat.zero_le _) (Nat.zero_le _) dX11_count_196 ⟨rfl, rfl⟩
theorem m_X11_count {Z : ZE} {l : Launch} (hZ : OkM Z) {a1 : Int32}  {s : St} {R : Int32 × St} (hF : F_X11_count (zg Z) a1 s = some R) : Sp Z l yX11_count iX11_count [.ref (za Z 60 0), .int a1] s (rI R) :=
  Sp.of (by decide) rfl (Nat.le_of_ble_eq_true rfl) (w_X11_count hZ  s hF)
-- X11_drop
def F_X11_drop (g : Nat × Nat) (a1 : Int32)   (s : St) : Option (Int32 × St) := (bd (F_X11_isSheet g a1 (up s 60 0 0 (0 : Int32))) (fun r6 s6 => (if r6 = 0 then (some ((-1000001), s6)) else (gd (inb a1 8) (if 0 ≤ (s6 61 0 a1.toNatClampNeg) then (gd (inb a1 8) (gd (inb a1 8) (some ((s6 62 0 a1.toNatClampNeg), (up (up s6 60 0 1 (0 : Int32)) 61 0 a1.toNatClampNeg (-1)))))) else (bd (F_X11_finding g (1 : Int32) (up s6 60 0 1 (0 : Int32))) (fun r31 s31 => (some (r31, s31)))))))))
set_option maxRecDepth 100000 in
set_option maxHeartbeats 4000000 in
theorem w_X11_drop {Z : ZE} {l : Launch} (hZ : OkM Z) {a1 : Int32}  {R : Int32 × St}    (s : St) (hF : F_X11_drop (zg Z) a1  s = some R) : AW Z l iX11_drop (Pq (rI R)) 0 0 0 [(0, .ref (za Z 60 0)), (1, .int a1)] [] s := by
  unfold F_X11_drop at hF
  refine a_aload_n dX11_drop_0 0 rfl rfl ?_
  refine a_iconst (v := (0 : Int32)) dX11_drop_1 (by decide) ?_
  refine a_put hZ.1 (hZ.2 60 0 (by decide) (by decide) Nat.one_pos) fl_X11_1 rfl rfl rfl dX11_drop_2 ?_
  refine a_iload_n dX11_drop_5 1 rfl rfl ?_
  obtain ⟨r6, s6, e6, hF⟩ := bd_some hF
  refine a_invS hZ.1 (As := [.int a1]) (rest := []) lk_X11_130 ⟨⟨by decide, by decide⟩, by decide, by decide⟩ rfl (Nat.le_of_ble_eq_true rfl) dX11_drop_6 (m_X11_isSheet hZ  e6) ?_
  show AW Z l iX11_drop (Pq (rI R)) 0 0 9 [(0, .ref (za Z 60 0)), (1, .int a1)] [.int r6] s6
  refine a_if_ne 15 dX11_drop_9 (by decide) (fun c1 => ?_) (fun c1 => ?_)
  · replace hF := (if_neg c1).symm.trans hF
    refine a_aload_n dX11_drop_15 0 rfl rfl ?_
    refine a_iconst (v := (0 : Int32)) dX11_drop_16 (by decide) ?_
    refine a_put hZ.1 (hZ.2 60 0 (by decide) (by decide) Nat.one_pos) fl_X11_7 rfl rfl rfl dX11_drop_17 ?_
    refine a_aload_n dX11_drop_20 0 rfl rfl ?_
    refine a_getR hZ.1 (hZ.2 60 0 (by decide) (by decide) Nat.one_pos) fl_X11_17 rfl 0 rfl dX11_drop_21 ?_
    refine a_iload_n dX11_drop_24 1 rfl rfl ?_
    obtain ⟨b2, hF⟩ := gd_some hF
    refine a_iald hZ.1 (s6 61 0 a1.toNatClampNeg) (hZ.2 61 0 (by decide) (by decide) Nat.one_pos) rfl rfl (inb_vp b2) rfl dX11_drop_25 ?_
    refine a_if_ge 35 dX11_drop_26 (by decide) (fun c3 => ?_) (fun c3 => ?_)
    · replace hF := (if_pos c3).symm.trans hF
      refine a_aload_n dX11_drop_35 0 rfl rfl ?_
      refine a_getR hZ.1 (hZ.2 60 0 (by decide) (by decide) Nat.one_pos) fl_X11_17 rfl 0 rfl dX11_drop_36 ?_
      refine a_iload_n dX11_drop_39 1 rfl rfl ?_
      refine a_iconst (v := (-1)) dX11_drop_40 (by decide) ?_
      obtain ⟨b4, hF⟩ := gd_some hF
      refine a_iast hZ.1 (hZ.2 61 0 (by decide) (by decide) Nat.one_pos) rfl rfl (inb_vp b4) dX11_drop_41 ?_
      refine a_aload_n dX11_drop_42 0 rfl rfl ?_
      refine a_getR hZ.1 (hZ.2 60 0 (by decide) (by decide) Nat.one_pos) fl_X11_21 rfl 0 rfl dX11_drop_43 ?_
      refine a_iload_n dX11_drop_46 1 rfl rfl ?_
      obtain ⟨b5, hF⟩ := gd_some hF
      refine a_iald hZ.1 (s6 62 0 a1.toNatClampNeg) (hZ.2 62 0 (by decide) (by decide) Nat.one_pos) rfl rfl (inb_vp b5) rfl dX11_drop_47 ?_
      replace hF := Option.some.inj hF
      subst hF
      exact a_iret rfl (Nat.zero_le _) (Nat.zero_le _) dX11_drop_48 ⟨rfl, rfl⟩
    · replace hF := (if_neg c3).symm.trans hF
      refine a_aload_n dX11_drop_29 0 rfl rfl ?_
      refine a_iconst (v := (1 : Int32)) dX11_drop_30 (by decide) ?_
      obtain ⟨r31, s31, e31, hF⟩ := bd_some hF
      refine a_invV hZ.1 (As := [.int (1 : Int32)]) (rest := []) (hZ.2 60 0 (by decide) (by decide) Nat.one_pos) lk_X11_137 ⟨⟨by decide, by decide⟩, by decide, by decide⟩ rfl (Nat.le_of_ble_eq_true rfl) dX11_drop_31 (m_X11_finding hZ  e31) ?_
      show AW Z l iX11_drop (Pq (rI R)) 0 0 34 [(0, .ref (za Z 60 0)), (1, .int a1)] [.int r31] s31
      replace hF := Option.some.inj hF
      subst hF
      exact a_iret rfl (Nat.zero_le _) (Nat.zero_le _) dX11_drop_34 ⟨rfl, rfl⟩
  · replace hF := (if_pos c1).symm.trans hF
    refine a_ldc (v := (-1000001)) kw_1136 dX11_drop_12 ?_
    replace hF := Option.some.inj hF
    subst hF
    exact a_iret rfl (Nat.zero_le _) (Nat.zero_le _) dX11_drop_14 ⟨rfl, rfl⟩
theorem m_X11_drop {Z : ZE} {l : Launch} (hZ : OkM Z) {a1 : Int32}  {s : St} {R : Int32 × St} (hF : F_X11_drop (zg Z) a1 s = some R) : Sp Z l yX11_drop iX11_drop [.ref (za Z 60 0), .int a1] s (rI R) :=
  Sp.of (by decide) rfl (Nat.le_of_ble_eq_true rfl) (w_X11_drop hZ  s hF)
-- X11_earnCoin
def F_X11_earnCoin_31 (g : Nat × Nat) (a1 : Int32) (a2 : Int32)  (x1 : Int32) (x2 : Int32) (s : St) : Option (Unit × St) := (gd (inb x1 6) (some ((), (up s 75 0 x1.toNatClampNeg x2))))
set_option maxRecDepth 100000 in
set_option maxHeartbeats 4000000 in
theorem w_X11_earnCoin_31 {Z : ZE} {l : Launch} (hZ : OkM Z) {a1 : Int32} {a2 : Int32}  {R : Unit × St}  (x1 : Int32) (x2 : Int32)  (s : St) (hF : F_X11_earnCoin_31 (zg Z) a1 a2 x1 x2 s = some R) : AW Z l iX11_earnCoin (Pq (rU R)) 0 0 31 [] [.int x2, .int x1, .ref (za Z 75 0)] s := by
  unfold F_X11_earnCoin_31 at hF
  obtain ⟨b1, hF⟩ := gd_some hF
  refine a_iast hZ.1 (hZ.2 75 0 (by decide) (by decide) Nat.one_pos) rfl rfl (inb_vp b1) dX11_earnCoin_31 ?_
  replace hF := Option.some.inj hF
  subst hF
  exact a_vret rfl (Nat.zero_le _) (Nat.zero_le _) dX11_earnCoin_32 ⟨rfl, rfl⟩
def F_X11_earnCoin (g : Nat × Nat) (a1 : Int32) (a2 : Int32)   (s : St) : Option (Unit × St) := (gd (inb a1 6) (if (lg_cmp ((s 75 0 a1.toNatClampNeg).toInt64 + a2.toInt64) (2000000000 : Int64)) ≤ 0 then (F_X11_earnCoin_31 g a1 a2  a1 ((s 75 0 a1.toNatClampNeg).toInt64 + a2.toInt64).toInt32 s) else (F_X11_earnCoin_31 g a1 a2  a1 (2000000000 : Int32) s)))
set_option maxRecDepth 100000 in
set_option maxHeartbeats 4000000 in
theorem w_X11_earnCoin {Z : ZE} {l : Launch} (hZ : OkM Z) {a1 : Int32} {a2 : Int32}  {R : Unit × St}    (s : St) (hF : F_X11_earnCoin (zg Z) a1 a2  s = some R) : AW Z l iX11_earnCoin (Pq (rU R)) 0 0 0 [(0, .ref (za Z 60 0)), (1, .int a1), (2, .int a2)] [] s := by
  unfold F_X11_earnCoin at hF
  refine a_aload_n dX11_earnCoin_0 0 rfl rfl ?_
  refine a_getR hZ.1 (hZ.2 60 0 (by decide) (by decide) Nat.one_pos) fl_X11_63 rfl 0 rfl dX11_earnCoin_1 ?_
  refine a_iload_n dX11_earnCoin_4 1 rfl rfl ?_
  obtain ⟨b1, hF⟩ := gd_some hF
  refine a_iald hZ.1 (s 75 0 a1.toNatClampNeg) (hZ.2 75 0 (by decide) (by decide) Nat.one_pos) rfl rfl (inb_vp b1) rfl dX11_earnCoin_5 ?_
  refine a_i2l dX11_earnCoin_6 ?_
  refine a_iload_n dX11_earnCoin_7 2 rfl rfl ?_
  refine a_i2l dX11_earnCoin_8 ?_
  refine a_ladd dX11_earnCoin_9 ?_
  refine a_lstore_n [(3, .long ((s 75 0 a1.toNatClampNeg).toInt64 + a2.toInt64)), (0, .ref (za Z 60 0)), (1, .int a1), (2, .int a2)] dX11_earnCoin_10 rfl (by decide) rfl ?_
  refine a_aload_n dX11_earnCoin_11 1 rfl rfl ?_
  refine a_getR hZ.1 (hZ.2 60 0 (by decide) (by decide) Nat.one_pos) fl_X11_63 rfl 0 rfl dX11_earnCoin_12 ?_
  refine a_iload_n dX11_earnCoin_15 2 rfl rfl ?_
  refine a_lload_n dX11_earnCoin_16 0 rfl rfl ?_
  refine a_ldc2 (v := (2000000000 : Int64)) kw_1221 dX11_earnCoin_17 ?_
  refine a_lcmp dX11_earnCoin_20 ?_
  refine a_if_le 29 dX11_earnCoin_21 (by decide) (fun c2 => ?_) (fun c2 => ?_)
  · replace hF := (if_pos c2).symm.trans hF
    refine a_lload_n dX11_earnCoin_29 0 rfl rfl ?_
    refine a_l2i dX11_earnCoin_30 ?_
    refine a_loc [] [] rfl ?_
    exact w_X11_earnCoin_31 (l := l) hZ   a1 (((s 75 0 a1.toNatClampNeg).toInt64 + a2.toInt64).toInt32)  _ hF
  · replace hF := (if_neg c2).symm.trans hF
    refine a_ldc (v := (2000000000 : Int32)) kw_1222 dX11_earnCoin_24 ?_
    refine a_goto 31 dX11_earnCoin_26 (by decide) ?_
    refine a_loc [] [] rfl ?_
    exact w_X11_earnCoin_31 (l := l) hZ   a1 (2000000000 : Int32)  _ hF
theorem m_X11_earnCoin {Z : ZE} {l : Launch} (hZ : OkM Z) {a1 : Int32} {a2 : Int32}  {s : St} {R : Unit × St} (hF : F_X11_earnCoin (zg Z) a1 a2 s = some R) : Sp Z l yX11_earnCoin iX11_earnCoin [.ref (za Z 60 0), .int a1, .int a2] s (rU R) :=
  Sp.of (by decide) rfl (Nat.le_of_ble_eq_true rfl) (w_X11_earnCoin hZ  s hF)
-- X11_earnOn
def F_X11_earnOn (g : Nat × Nat) (a1 : Int32) (a2 : Int32)   (s : St) : Option (Int32 × St) := (gd (inb a1 4) (gd (ne0 ((50 : Int32) + (s 65 0 a1.toNatClampNeg))) (bd (F_X11_numberFor g a2 (0 : Int32) a1 s) (fun r17 s17 => (some ((((3000 : Int32) / ((50 : Int32) + (s 65 0 a1.toNatClampNeg))) * r17), s17))))))
set_option maxRecDepth 100000 in
set_option maxHeartbeats 4000000 in
theorem w_X11_earnOn {Z : ZE} {l : Launch} (hZ : OkM Z) {a1 : Int32} {a2 : Int32}  {R : Int32 × St}    (s : St) (hF : F_X11_earnOn (zg Z) a1 a2  s = some R) : AW Z l iX11_earnOn (Pq (rI R)) 0 0 0 [(0, .ref (za Z 60 0)), (1, .int a1), (2, .int a2)] [] s := by
  unfold F_X11_earnOn at hF
  refine a_sipush (v := (3000 : Int32)) dX11_earnOn_0 (by decide) ?_
  refine a_bipush (v := (50 : Int32)) dX11_earnOn_3 (by decide) ?_
  refine a_aload_n dX11_earnOn_5 0 rfl rfl ?_
  refine a_getR hZ.1 (hZ.2 60 0 (by decide) (by decide) Nat.one_pos) fl_X11_30 rfl 0 rfl dX11_earnOn_6 ?_
  refine a_iload_n dX11_earnOn_9 1 rfl rfl ?_
  obtain ⟨b1, hF⟩ := gd_some hF
  refine a_iald hZ.1 (s 65 0 a1.toNatClampNeg) (hZ.2 65 0 (by decide) (by decide) Nat.one_pos) rfl rfl (inb_vp b1) rfl dX11_earnOn_10 ?_
  refine a_iadd dX11_earnOn_11 ?_
  obtain ⟨b2, hF⟩ := gd_some hF
  refine a_idiv dX11_earnOn_12 (ne0_n b2) ?_
  refine a_aload_n dX11_earnOn_13 0 rfl rfl ?_
  refine a_iload_n dX11_earnOn_14 2 rfl rfl ?_
  refine a_iconst (v := (0 : Int32)) dX11_earnOn_15 (by decide) ?_
  refine a_iload_n dX11_earnOn_16 1 rfl rfl ?_
  obtain ⟨r17, s17, e17, hF⟩ := bd_some hF
  refine a_invV hZ.1 (As := [.int a2, .int (0 : Int32), .int a1]) (rest := [.int ((3000 : Int32) / ((50 : Int32) + (s 65 0 a1.toNatClampNeg)))]) (hZ.2 60 0 (by decide) (by decide) Nat.one_pos) lk_X11_298 ⟨⟨by decide, by decide⟩, by decide, by decide⟩ rfl (Nat.le_of_ble_eq_true rfl) dX11_earnOn_17 (m_X11_numberFor hZ  e17) ?_
  show AW Z l iX11_earnOn (Pq (rI R)) 0 0 20 [(0, .ref (za Z 60 0)), (1, .int a1), (2, .int a2)] [.int r17, .int ((3000 : Int32) / ((50 : Int32) + (s 65 0 a1.toNatClampNeg)))] s17
  refine a_imul dX11_earnOn_20 ?_
  replace hF := Option.some.inj hF
  subst hF
  exact a_iret rfl (Nat.zero_le _) (Nat.zero_le _) dX11_earnOn_21 ⟨rfl, rfl⟩
theorem m_X11_earnOn {Z : ZE} {l : Launch} (hZ : OkM Z) {a1 : Int32} {a2 : Int32}  {s : St} {R : Int32 × St} (hF : F_X11_earnOn (zg Z) a1 a2 s = some R) : Sp Z l yX11_earnOn iX11_earnOn [.ref (za Z 60 0), .int a1, .int a2] s (rI R) :=
  Sp.of (by decide) rfl (Nat.le_of_ble_eq_true rfl) (w_X11_earnOn hZ  s hF)
-- X11_fault
def F_X11_fault (g : Nat × Nat)    (s : St) : Option (Int32 × St) := (some ((s 60 0 32), (up s 60 0 0 (0 : Int32))))
set_option maxRecDepth 100000 in
set_option maxHeartbeats 4000000 in
theorem w_X11_fault {Z : ZE} {l : Launch} (hZ : OkM Z)   {R : Int32 × St}    (s : St) (hF : F_X11_fault (zg Z)   s = some R) : AW Z l iX11_fault (Pq (rI R)) 0 0 0 [(0, .ref (za Z 60 0))] [] s := by
  unfold F_X11_fault at hF
  refine a_aload_n dX11_fault_0 0 rfl rfl ?_
  refine a_iconst (v := (0 : Int32)) dX11_fault_1 (by decide) ?_
  refine a_put hZ.1 (hZ.2 60 0 (by decide) (by decide) Nat.one_pos) fl_X11_1 rfl rfl rfl dX11_fault_2 ?_
  refine a_aload_n dX11_fault_5 0 rfl rfl ?_
  refine a_getI hZ.1 (s 60 0 32) (hZ.2 60 0 (by decide) (by decide) Nat.one_pos) fl_X11_294 rfl (by simp [up]) dX11_fault_6 ?_
  replace hF := Option.some.inj hF
  subst hF
  exact a_iret rfl (Nat.zero_le _) (Nat.zero_le _) dX11_fault_9 ⟨rfl, rfl⟩
theorem m_X11_fault {Z : ZE} {l : Launch} (hZ : OkM Z)   {s : St} {R : Int32 × St} (hF : F_X11_fault (zg Z)  s = some R) : Sp Z l yX11_fault iX11_fault [.ref (za Z 60 0)] s (rI R) :=
  Sp.of (by decide) rfl (Nat.le_of_ble_eq_true rfl) (w_X11_fault hZ  s hF)
-- X11_feed
def F_X11_feed_40 (g : Nat × Nat) (a1 : Int64) (a3 : Int32)  : Nat → Int32 → St → Option (Int32 × St)
  | 0, _, _ => none
  | n_ + 1, v4, s => (if v4 < 0 then (some ((s 60 0 31), s)) else (gd (inb (s 60 0 31) 400) (F_X11_feed_40 g a1 a3  n_ (v4 + (-1)) (up (up s 82 0 (s 60 0 31).toNatClampNeg ((a1 >>> (((8 : Int32) * v4).toInt64 &&& 63)) &&& (255 : Int64)).toInt32) 60 0 31 ((s 60 0 31) + (1 : Int32))))))
set_option maxRecDepth 100000 in
set_option maxHeartbeats 4000000 in
theorem w_X11_feed_40 {Z : ZE} {l : Launch} (hZ : OkM Z) {a1 : Int64} {a3 : Int32}  {R : Int32 × St}  : ∀ (n_ : Nat) (v4 : Int32)  (s : St), F_X11_feed_40 (zg Z) a1 a3 n_ v4 s = some R → AW Z l iX11_feed (Pq (rI R)) 0 0 40 [(0, .ref (za Z 60 0)), (1, .long a1), (4, .int v4)] [] s := by
  intro n_
  induction n_ with
  | zero =>
    intro v4 s hF
    exact absurd hF (by rw [F_X11_feed_40]; exact fun q => by cases q)
  | succ n_ w40_ =>
    intro v4 s hF
    rw [F_X11_feed_40] at hF
    refine a_iload dX11_feed_40 2 rfl ?_
    refine a_if_lt 82 dX11_feed_42 (by decide) (fun c1 => ?_) (fun c1 => ?_)
    · replace hF := (if_pos c1).symm.trans hF
      refine a_aload_n dX11_feed_82 0 rfl rfl ?_
      refine a_getI hZ.1 (s 60 0 31) (hZ.2 60 0 (by decide) (by decide) Nat.one_pos) fl_X11_217 rfl rfl dX11_feed_83 ?_
      replace hF := Option.some.inj hF
      subst hF
      exact a_iret rfl (Nat.zero_le _) (Nat.zero_le _) dX11_feed_86 ⟨rfl, rfl⟩
    · replace hF := (if_neg c1).symm.trans hF
      refine a_aload_n dX11_feed_45 0 rfl rfl ?_
      refine a_getR hZ.1 (hZ.2 60 0 (by decide) (by decide) Nat.one_pos) fl_X11_85 rfl 0 rfl dX11_feed_46 ?_
      refine a_aload_n dX11_feed_49 0 rfl rfl ?_
      refine a_getI hZ.1 (s 60 0 31) (hZ.2 60 0 (by decide) (by decide) Nat.one_pos) fl_X11_217 rfl rfl dX11_feed_50 ?_
      refine a_lload_n dX11_feed_53 1 rfl rfl ?_
      refine a_bipush (v := (8 : Int32)) dX11_feed_54 (by decide) ?_
      refine a_iload dX11_feed_56 2 rfl ?_
      refine a_imul dX11_feed_58 ?_
      refine a_lshr dX11_feed_59 ?_
      refine a_ldc2 (v := (255 : Int64)) kw_1257 dX11_feed_60 ?_
      refine a_land dX11_feed_63 ?_
      refine a_l2i dX11_feed_64 ?_
      obtain ⟨b2, hF⟩ := gd_some hF
      refine a_iast hZ.1 (hZ.2 82 0 (by decide) (by decide) Nat.one_pos) rfl rfl (inb_vp b2) dX11_feed_65 ?_
      refine a_aload_n dX11_feed_66 0 rfl rfl ?_
      refine a_dup dX11_feed_67 rfl ?_
      refine a_getI hZ.1 (s 60 0 31) (hZ.2 60 0 (by decide) (by decide) Nat.one_pos) fl_X11_217 rfl rfl dX11_feed_68 ?_
      refine a_iconst (v := (1 : Int32)) dX11_feed_71 (by decide) ?_
      refine a_iadd dX11_feed_72 ?_
      refine a_put hZ.1 (hZ.2 60 0 (by decide) (by decide) Nat.one_pos) fl_X11_217 rfl rfl rfl dX11_feed_73 ?_
      refine a_iinc [(4, .int (v4 + (-1))), (0, .ref (za Z 60 0)), (1, .long a1)] dX11_feed_76 2 rfl rfl (by decide) rfl ?_
      refine a_goto 40 dX11_feed_79 (by decide) ?_
      refine a_loc [(0, .ref (za Z 60 0)), (1, .long a1), (4, .int (v4 + (-1)))] [1, 2, 0] rfl ?_
      exact w40_ (v4 + (-1))  _ hF
def F_X11_feed (g : Nat × Nat) (a1 : Int64) (a3 : Int32)   (s : St) : Option (Int32 × St) := (bd (F_X11_in g a3.toInt64 (1 : Int64) (8 : Int64) (up s 60 0 0 (0 : Int32))) (fun r11 s11 => (if r11 = 0 then (some ((-1000001), s11)) else (if ((s11 60 0 31) + a3) ≤ (400 : Int32) then (F_X11_feed_40 g a1 a3  fu (a3 - (1 : Int32)) s11) else (some ((-1000003), s11))))))
set_option maxRecDepth 100000 in
set_option maxHeartbeats 4000000 in
theorem w_X11_feed {Z : ZE} {l : Launch} (hZ : OkM Z) {a1 : Int64} {a3 : Int32}  {R : Int32 × St}    (s : St) (hF : F_X11_feed (zg Z) a1 a3  s = some R) : AW Z l iX11_feed (Pq (rI R)) 0 0 0 [(0, .ref (za Z 60 0)), (1, .long a1), (3, .int a3)] [] s := by
  unfold F_X11_feed at hF
  refine a_aload_n dX11_feed_0 0 rfl rfl ?_
  refine a_iconst (v := (0 : Int32)) dX11_feed_1 (by decide) ?_
  refine a_put hZ.1 (hZ.2 60 0 (by decide) (by decide) Nat.one_pos) fl_X11_1 rfl rfl rfl dX11_feed_2 ?_
  refine a_iload_n dX11_feed_5 2 rfl rfl ?_
  refine a_i2l dX11_feed_6 ?_
  refine a_lconst (v := (1 : Int64)) dX11_feed_7 (by decide) ?_
  refine a_ldc2 (v := (8 : Int64)) kw_1256 dX11_feed_8 ?_
  obtain ⟨r11, s11, e11, hF⟩ := bd_some hF
  refine a_invS hZ.1 (As := [.long a3.toInt64, .long (1 : Int64), .long (8 : Int64)]) (rest := []) lk_X11_126 ⟨⟨by decide, by decide⟩, by decide, by decide⟩ rfl (Nat.le_of_ble_eq_true rfl) dX11_feed_11 (m_X11_in hZ  e11) ?_
  show AW Z l iX11_feed (Pq (rI R)) 0 0 14 [(0, .ref (za Z 60 0)), (1, .long a1), (3, .int a3)] [.int r11] s11
  refine a_if_ne 20 dX11_feed_14 (by decide) (fun c1 => ?_) (fun c1 => ?_)
  · replace hF := (if_neg c1).symm.trans hF
    refine a_aload_n dX11_feed_20 0 rfl rfl ?_
    refine a_getI hZ.1 (s11 60 0 31) (hZ.2 60 0 (by decide) (by decide) Nat.one_pos) fl_X11_217 rfl rfl dX11_feed_21 ?_
    refine a_iload_n dX11_feed_24 2 rfl rfl ?_
    refine a_iadd dX11_feed_25 ?_
    refine a_sipush (v := (400 : Int32)) dX11_feed_26 (by decide) ?_
    refine a_icmp_le 35 dX11_feed_29 (by decide) (fun c2 => ?_) (fun c2 => ?_)
    · replace hF := (if_pos c2).symm.trans hF
      refine a_iload_n dX11_feed_35 2 rfl rfl ?_
      refine a_iconst (v := (1 : Int32)) dX11_feed_36 (by decide) ?_
      refine a_isub dX11_feed_37 ?_
      refine a_istore [(4, .int (a3 - (1 : Int32))), (0, .ref (za Z 60 0)), (1, .long a1), (3, .int a3)] dX11_feed_38 (by decide) rfl ?_
      refine a_loc [(0, .ref (za Z 60 0)), (1, .long a1), (4, .int (a3 - (1 : Int32)))] [1, 2, 0] rfl ?_
      exact w_X11_feed_40 (l := l) hZ   fu (a3 - (1 : Int32))  _ hF
    · replace hF := (if_neg c2).symm.trans hF
      refine a_ldc (v := (-1000003)) kw_1176 dX11_feed_32 ?_
      replace hF := Option.some.inj hF
      subst hF
      exact a_iret rfl (Nat.zero_le _) (Nat.zero_le _) dX11_feed_34 ⟨rfl, rfl⟩
  · replace hF := (if_pos c1).symm.trans hF
    refine a_ldc (v := (-1000001)) kw_1136 dX11_feed_17 ?_
    replace hF := Option.some.inj hF
    subst hF
    exact a_iret rfl (Nat.zero_le _) (Nat.zero_le _) dX11_feed_19 ⟨rfl, rfl⟩
theorem m_X11_feed {Z : ZE} {l : Launch} (hZ : OkM Z) {a1 : Int64} {a3 : Int32}  {s : St} {R : Int32 × St} (hF : F_X11_feed (zg Z) a1 a3 s = some R) : Sp Z l yX11_feed iX11_feed [.ref (za Z 60 0), .long a1, .int a3] s (rI R) :=
  Sp.of (by decide) rfl (Nat.le_of_ble_eq_true rfl) (w_X11_feed hZ  s hF)
-- X11_findFirst
def F_X11_findFirst_106 (g : Nat × Nat) (a1 : Int32) (h9_ : Int32 → Int32 → St → Option (Int32 × St)) (v2 : Int32) (v3 : Int32) (s : St) : Option (Int32 × St) := (h9_ v2 (v3 + 1) s)
set_option maxRecDepth 100000 in
set_option maxHeartbeats 4000000 in
theorem w_X11_findFirst_106 {Z : ZE} {l : Launch} (hZ : OkM Z) {a1 : Int32}  {R : Int32 × St} (h9_ : Int32 → Int32 → St → Option (Int32 × St)) (w9_ : ∀ (v2 : Int32) (v3 : Int32)  (s : St), h9_ v2 v3 s = some R → AW Z l iX11_findFirst (Pq (rI R)) 0 0 9 [(0, .ref (za Z 60 0)), (1, .int a1), (2, .int v2), (3, .int v3)] [] s) (v2 : Int32) (v3 : Int32)  (s : St) (hF : F_X11_findFirst_106 (zg Z) a1 h9_ v2 v3 s = some R) : AW Z l iX11_findFirst (Pq (rI R)) 0 0 106 [(0, .ref (za Z 60 0)), (1, .int a1), (2, .int v2), (3, .int v3)] [] s := by
  unfold F_X11_findFirst_106 at hF
  refine a_iinc [(3, .int (v3 + 1)), (0, .ref (za Z 60 0)), (1, .int a1), (2, .int v2)] dX11_findFirst_106 3 rfl rfl (by decide) rfl ?_
  refine a_goto 9 dX11_findFirst_109 (by decide) ?_
  refine a_loc [(0, .ref (za Z 60 0)), (1, .int a1), (2, .int v2), (3, .int (v3 + 1))] [1, 2, 3, 0] rfl ?_
  exact w9_ v2 (v3 + 1)  _ hF
def F_X11_findFirst_100 (g : Nat × Nat) (a1 : Int32) (h17_ : Int32 → Int32 → Int32 → St → Option (Int32 × St)) (h106_ : Int32 → Int32 → St → Option (Int32 × St)) (v2 : Int32) (v3 : Int32) (v4 : Int32) (s : St) : Option (Int32 × St) := (h17_ v2 v3 (v4 + 1) s)
set_option maxRecDepth 100000 in
set_option maxHeartbeats 4000000 in
theorem w_X11_findFirst_100 {Z : ZE} {l : Launch} (hZ : OkM Z) {a1 : Int32}  {R : Int32 × St} (h17_ : Int32 → Int32 → Int32 → St → Option (Int32 × St)) (w17_ : ∀ (v2 : Int32) (v3 : Int32) (v4 : Int32)  (s : St), h17_ v2 v3 v4 s = some R → AW Z l iX11_findFirst (Pq (rI R)) 0 0 17 [(0, .ref (za Z 60 0)), (1, .int a1), (2, .int v2), (3, .int v3), (4, .int v4)] [] s) (h106_ : Int32 → Int32 → St → Option (Int32 × St)) (w106_ : ∀ (v2 : Int32) (v3 : Int32)  (s : St), h106_ v2 v3 s = some R → AW Z l iX11_findFirst (Pq (rI R)) 0 0 106 [(0, .ref (za Z 60 0)), (1, .int a1), (2, .int v2), (3, .int v3)] [] s) (v2 : Int32) (v3 : Int32) (v4 : Int32)  (s : St) (hF : F_X11_findFirst_100 (zg Z) a1 h17_ h106_ v2 v3 v4 s = some R) : AW Z l iX11_findFirst (Pq (rI R)) 0 0 100 [(0, .ref (za Z 60 0)), (1, .int a1), (2, .int v2), (3, .int v3), (4, .int v4)] [] s := by
  unfold F_X11_findFirst_100 at hF
  refine a_iinc [(4, .int (v4 + 1)), (0, .ref (za Z 60 0)), (1, .int a1), (2, .int v2), (3, .int v3)] dX11_findFirst_100 4 rfl rfl (by decide) rfl ?_
  refine a_goto 17 dX11_findFirst_103 (by decide) ?_
  refine a_loc [(0, .ref (za Z 60 0)), (1, .int a1), (2, .int v2), (3, .int v3), (4, .int (v4 + 1))] [1, 2, 3, 4, 0] rfl ?_
  exact w17_ v2 v3 (v4 + 1)  _ hF
def F_X11_findFirst_17 (g : Nat × Nat) (a1 : Int32) (h106_ : Int32 → Int32 → St → Option (Int32 × St)) : Nat → Int32 → Int32 → Int32 → St → Option (Int32 × St)
  | 0, _, _, _, _ => none
  | n_ + 1, v2, v3, v4, s => (if (s 60 0 24) ≤ v4 then (h106_ v2 v3 s) else (gd (inb v4 30) (if (s 79 0 v4.toNatClampNeg) = (4 : Int32) then (gd (inb v4 30) (if (s 78 0 v4.toNatClampNeg) = v3 then (gd (inb v4 30) (if ((v2 >>> ((s 80 0 v4.toNatClampNeg) &&& 31)) &&& (1 : Int32)) = 0 then (gd (inb v4 30) (gd (inb v4 30) (gd (inb (s 60 0 40) 4) (F_X11_findFirst_100 g a1 (F_X11_findFirst_17 g a1 h106_ n_) h106_ (v2 ||| ((1 : Int32) <<< ((s 80 0 v4.toNatClampNeg) &&& 31))) v3 v4 (up (up s 83 0 (s 60 0 40).toNatClampNeg (s 80 0 v4.toNatClampNeg)) 60 0 40 ((s 60 0 40) + (1 : Int32))))))) else (F_X11_findFirst_100 g a1 (F_X11_findFirst_17 g a1 h106_ n_) h106_ v2 v3 v4 s))) else (F_X11_findFirst_100 g a1 (F_X11_findFirst_17 g a1 h106_ n_) h106_ v2 v3 v4 s))) else (F_X11_findFirst_100 g a1 (F_X11_findFirst_17 g a1 h106_ n_) h106_ v2 v3 v4 s))))
set_option maxRecDepth 100000 in
set_option maxHeartbeats 4000000 in
theorem w_X11_findFirst_17 {Z : ZE} {l : Launch} (hZ : OkM Z) {a1 : Int32}  {R : Int32 × St} (h106_ : Int32 → Int32 → St → Option (Int32 × St)) (w106_ : ∀ (v2 : Int32) (v3 : Int32)  (s : St), h106_ v2 v3 s = some R → AW Z l iX11_findFirst (Pq (rI R)) 0 0 106 [(0, .ref (za Z 60 0)), (1, .int a1), (2, .int v2), (3, .int v3)] [] s) : ∀ (n_ : Nat) (v2 : Int32) (v3 : Int32) (v4 : Int32)  (s : St), F_X11_findFirst_17 (zg Z) a1 h106_ n_ v2 v3 v4 s = some R → AW Z l iX11_findFirst (Pq (rI R)) 0 0 17 [(0, .ref (za Z 60 0)), (1, .int a1), (2, .int v2), (3, .int v3), (4, .int v4)] [] s := by
  intro n_
  induction n_ with
  | zero =>
    intro v2 v3 v4 s hF
    exact absurd hF (by rw [F_X11_findFirst_17]; exact fun q => by cases q)
  | succ n_ w17_ =>
    intro v2 v3 v4 s hF
    rw [F_X11_findFirst_17] at hF
    refine a_iload dX11_findFirst_17 4 rfl ?_
    refine a_aload_n dX11_findFirst_19 0 rfl rfl ?_
    refine a_getI hZ.1 (s 60 0 24) (hZ.2 60 0 (by decide) (by decide) Nat.one_pos) fl_X11_286 rfl rfl dX11_findFirst_20 ?_
    refine a_icmp_ge 106 dX11_findFirst_23 (by decide) (fun c1 => ?_) (fun c1 => ?_)
    · replace hF := (if_pos c1).symm.trans hF
      refine a_loc [(0, .ref (za Z 60 0)), (1, .int a1), (2, .int v2), (3, .int v3)] [0, 1, 2, 3] rfl ?_
      exact w106_ v2 v3  _ hF
    · replace hF := (if_neg c1).symm.trans hF
      refine a_aload_n dX11_findFirst_26 0 rfl rfl ?_
      refine a_getR hZ.1 (hZ.2 60 0 (by decide) (by decide) Nat.one_pos) fl_X11_76 rfl 0 rfl dX11_findFirst_27 ?_
      refine a_iload dX11_findFirst_30 4 rfl ?_
      obtain ⟨b2, hF⟩ := gd_some hF
      refine a_iald hZ.1 (s 79 0 v4.toNatClampNeg) (hZ.2 79 0 (by decide) (by decide) Nat.one_pos) rfl rfl (inb_vp b2) rfl dX11_findFirst_32 ?_
      refine a_iconst (v := (4 : Int32)) dX11_findFirst_33 (by decide) ?_
      refine a_icmp_ne 100 dX11_findFirst_34 (by decide) (fun c3 => ?_) (fun c3 => ?_)
      · replace hF := (if_neg c3).symm.trans hF
        exact w_X11_findFirst_100 (l := l) hZ  (F_X11_findFirst_17 (zg Z) a1 h106_ n_) w17_ h106_ w106_ v2 v3 v4  _ hF
      · replace hF := (if_pos c3).symm.trans hF
        refine a_aload_n dX11_findFirst_37 0 rfl rfl ?_
        refine a_getR hZ.1 (hZ.2 60 0 (by decide) (by decide) Nat.one_pos) fl_X11_73 rfl 0 rfl dX11_findFirst_38 ?_
        refine a_iload dX11_findFirst_41 4 rfl ?_
        obtain ⟨b4, hF⟩ := gd_some hF
        refine a_iald hZ.1 (s 78 0 v4.toNatClampNeg) (hZ.2 78 0 (by decide) (by decide) Nat.one_pos) rfl rfl (inb_vp b4) rfl dX11_findFirst_43 ?_
        refine a_iload_n dX11_findFirst_44 3 rfl rfl ?_
        refine a_icmp_ne 100 dX11_findFirst_45 (by decide) (fun c5 => ?_) (fun c5 => ?_)
        · replace hF := (if_neg c5).symm.trans hF
          exact w_X11_findFirst_100 (l := l) hZ  (F_X11_findFirst_17 (zg Z) a1 h106_ n_) w17_ h106_ w106_ v2 v3 v4  _ hF
        · replace hF := (if_pos c5).symm.trans hF
          refine a_iload_n dX11_findFirst_48 2 rfl rfl ?_
          refine a_aload_n dX11_findFirst_49 0 rfl rfl ?_
          refine a_getR hZ.1 (hZ.2 60 0 (by decide) (by decide) Nat.one_pos) fl_X11_79 rfl 0 rfl dX11_findFirst_50 ?_
          refine a_iload dX11_findFirst_53 4 rfl ?_
          obtain ⟨b6, hF⟩ := gd_some hF
          refine a_iald hZ.1 (s 80 0 v4.toNatClampNeg) (hZ.2 80 0 (by decide) (by decide) Nat.one_pos) rfl rfl (inb_vp b6) rfl dX11_findFirst_55 ?_
          refine a_ishr dX11_findFirst_56 ?_
          refine a_iconst (v := (1 : Int32)) dX11_findFirst_57 (by decide) ?_
          refine a_iand dX11_findFirst_58 ?_
          refine a_if_ne 100 dX11_findFirst_59 (by decide) (fun c7 => ?_) (fun c7 => ?_)
          · replace hF := (if_neg c7).symm.trans hF
            exact w_X11_findFirst_100 (l := l) hZ  (F_X11_findFirst_17 (zg Z) a1 h106_ n_) w17_ h106_ w106_ v2 v3 v4  _ hF
          · replace hF := (if_pos c7).symm.trans hF
            refine a_iload_n dX11_findFirst_62 2 rfl rfl ?_
            refine a_iconst (v := (1 : Int32)) dX11_findFirst_63 (by decide) ?_
            refine a_aload_n dX11_findFirst_64 0 rfl rfl ?_
            refine a_getR hZ.1 (hZ.2 60 0 (by decide) (by decide) Nat.one_pos) fl_X11_79 rfl 0 rfl dX11_findFirst_65 ?_
            refine a_iload dX11_findFirst_68 4 rfl ?_
            obtain ⟨b8, hF⟩ := gd_some hF
            refine a_iald hZ.1 (s 80 0 v4.toNatClampNeg) (hZ.2 80 0 (by decide) (by decide) Nat.one_pos) rfl rfl (inb_vp b8) rfl dX11_findFirst_70 ?_
            refine a_ishl dX11_findFirst_71 ?_
            refine a_ior dX11_findFirst_72 ?_
            refine a_istore_n [(2, .int (v2 ||| ((1 : Int32) <<< ((s 80 0 v4.toNatClampNeg) &&& 31)))), (0, .ref (za Z 60 0)), (1, .int a1), (3, .int v3), (4, .int v4)] dX11_findFirst_73 rfl (by decide) rfl ?_
            refine a_aload_n dX11_findFirst_74 1 rfl rfl ?_
            refine a_getR hZ.1 (hZ.2 60 0 (by decide) (by decide) Nat.one_pos) fl_X11_88 rfl 0 rfl dX11_findFirst_75 ?_
            refine a_aload_n dX11_findFirst_78 1 rfl rfl ?_
            refine a_getI hZ.1 (s 60 0 40) (hZ.2 60 0 (by decide) (by decide) Nat.one_pos) fl_X11_302 rfl rfl dX11_findFirst_79 ?_
            refine a_aload_n dX11_findFirst_82 1 rfl rfl ?_
            refine a_getR hZ.1 (hZ.2 60 0 (by decide) (by decide) Nat.one_pos) fl_X11_79 rfl 0 rfl dX11_findFirst_83 ?_
            refine a_iload dX11_findFirst_86 4 rfl ?_
            obtain ⟨b9, hF⟩ := gd_some hF
            refine a_iald hZ.1 (s 80 0 v4.toNatClampNeg) (hZ.2 80 0 (by decide) (by decide) Nat.one_pos) rfl rfl (inb_vp b9) rfl dX11_findFirst_88 ?_
            obtain ⟨b10, hF⟩ := gd_some hF
            refine a_iast hZ.1 (hZ.2 83 0 (by decide) (by decide) Nat.one_pos) rfl rfl (inb_vp b10) dX11_findFirst_89 ?_
            refine a_aload_n dX11_findFirst_90 1 rfl rfl ?_
            refine a_dup dX11_findFirst_91 rfl ?_
            refine a_getI hZ.1 (s 60 0 40) (hZ.2 60 0 (by decide) (by decide) Nat.one_pos) fl_X11_302 rfl rfl dX11_findFirst_92 ?_
            refine a_iconst (v := (1 : Int32)) dX11_findFirst_95 (by decide) ?_
            refine a_iadd dX11_findFirst_96 ?_
            refine a_put hZ.1 (hZ.2 60 0 (by decide) (by decide) Nat.one_pos) fl_X11_302 rfl rfl rfl dX11_findFirst_97 ?_
            refine a_loc [(0, .ref (za Z 60 0)), (1, .int a1), (2, .int (v2 ||| ((1 : Int32) <<< ((s 80 0 v4.toNatClampNeg) &&& 31)))), (3, .int v3), (4, .int v4)] [1, 2, 0, 3, 4] rfl ?_
            exact w_X11_findFirst_100 (l := l) hZ  (F_X11_findFirst_17 (zg Z) a1 h106_ n_) w17_ h106_ w106_ (v2 ||| ((1 : Int32) <<< ((s 80 0 v4.toNatClampNeg) &&& 31))) v3 v4  _ hF
def F_X11_findFirst_9 (g : Nat × Nat) (a1 : Int32)  : Nat → Int32 → Int32 → St → Option (Int32 × St)
  | 0, _, _, _ => none
  | n_ + 1, v2, v3, s => (if a1 < v3 then (some (v2, s)) else ((F_X11_findFirst_17 g a1 (F_X11_findFirst_106 g a1 (F_X11_findFirst_9 g a1  n_)) fu) v2 v3 (0 : Int32) s))
set_option maxRecDepth 100000 in
set_option maxHeartbeats 4000000 in
theorem w_X11_findFirst_9 {Z : ZE} {l : Launch} (hZ : OkM Z) {a1 : Int32}  {R : Int32 × St}  : ∀ (n_ : Nat) (v2 : Int32) (v3 : Int32)  (s : St), F_X11_findFirst_9 (zg Z) a1 n_ v2 v3 s = some R → AW Z l iX11_findFirst (Pq (rI R)) 0 0 9 [(0, .ref (za Z 60 0)), (1, .int a1), (2, .int v2), (3, .int v3)] [] s := by
  intro n_
  induction n_ with
  | zero =>
    intro v2 v3 s hF
    exact absurd hF (by rw [F_X11_findFirst_9]; exact fun q => by cases q)
  | succ n_ w9_ =>
    intro v2 v3 s hF
    rw [F_X11_findFirst_9] at hF
    refine a_iload_n dX11_findFirst_9 3 rfl rfl ?_
    refine a_iload_n dX11_findFirst_10 1 rfl rfl ?_
    refine a_icmp_gt 112 dX11_findFirst_11 (by decide) (fun c1 => ?_) (fun c1 => ?_)
    · replace hF := (if_pos c1).symm.trans hF
      refine a_iload_n dX11_findFirst_112 2 rfl rfl ?_
      replace hF := Option.some.inj hF
      subst hF
      exact a_iret rfl (Nat.zero_le _) (Nat.zero_le _) dX11_findFirst_113 ⟨rfl, rfl⟩
    · replace hF := (if_neg c1).symm.trans hF
      refine a_iconst (v := (0 : Int32)) dX11_findFirst_14 (by decide) ?_
      refine a_istore [(4, .int (0 : Int32)), (0, .ref (za Z 60 0)), (1, .int a1), (2, .int v2), (3, .int v3)] dX11_findFirst_15 (by decide) rfl ?_
      refine a_loc [(0, .ref (za Z 60 0)), (1, .int a1), (2, .int v2), (3, .int v3), (4, .int (0 : Int32))] [1, 2, 3, 4, 0] rfl ?_
      exact w_X11_findFirst_17 (l := l) hZ  (F_X11_findFirst_106 (zg Z) a1 (F_X11_findFirst_9 (zg Z) a1 n_)) (w_X11_findFirst_106 (l := l) hZ  (F_X11_findFirst_9 (zg Z) a1 n_) w9_) fu v2 v3 (0 : Int32)  _ hF
def F_X11_findFirst (g : Nat × Nat) (a1 : Int32)   (s : St) : Option (Int32 × St) := (F_X11_findFirst_9 g a1  fu (0 : Int32) (0 : Int32) (up s 60 0 40 (0 : Int32)))
set_option maxRecDepth 100000 in
set_option maxHeartbeats 4000000 in
theorem w_X11_findFirst {Z : ZE} {l : Launch} (hZ : OkM Z) {a1 : Int32}  {R : Int32 × St}    (s : St) (hF : F_X11_findFirst (zg Z) a1  s = some R) : AW Z l iX11_findFirst (Pq (rI R)) 0 0 0 [(0, .ref (za Z 60 0)), (1, .int a1)] [] s := by
  unfold F_X11_findFirst at hF
  refine a_iconst (v := (0 : Int32)) dX11_findFirst_0 (by decide) ?_
  refine a_istore_n [(2, .int (0 : Int32)), (0, .ref (za Z 60 0)), (1, .int a1)] dX11_findFirst_1 rfl (by decide) rfl ?_
  refine a_aload_n dX11_findFirst_2 1 rfl rfl ?_
  refine a_iconst (v := (0 : Int32)) dX11_findFirst_3 (by decide) ?_
  refine a_put hZ.1 (hZ.2 60 0 (by decide) (by decide) Nat.one_pos) fl_X11_302 rfl rfl rfl dX11_findFirst_4 ?_
  refine a_iconst (v := (0 : Int32)) dX11_findFirst_7 (by decide) ?_
  refine a_istore_n [(3, .int (0 : Int32)), (2, .int (0 : Int32)), (0, .ref (za Z 60 0)), (1, .int a1)] dX11_findFirst_8 rfl (by decide) rfl ?_
  refine a_loc [(0, .ref (za Z 60 0)), (1, .int a1), (2, .int (0 : Int32)), (3, .int (0 : Int32))] [2, 3, 1, 0] rfl ?_
  exact w_X11_findFirst_9 (l := l) hZ   fu (0 : Int32) (0 : Int32)  _ hF
theorem m_X11_findFirst {Z : ZE} {l : Launch} (hZ : OkM Z) {a1 : Int32}  {s : St} {R : Int32 × St} (hF : F_X11_findFirst (zg Z) a1 s = some R) : Sp Z l yX11_findFirst iX11_findFirst [.ref (za Z 60 0), .int a1] s (rI R) :=
  Sp.of (by decide) rfl (Nat.le_of_ble_eq_true rfl) (w_X11_findFirst hZ  s hF)
