/-! THE CLAIM OUT OF ONE WALK OF THE LAW'S BODY. Your part is whole_start (and what it stands on); all else here is the same for every law, but numbers. -/
def R_law : String := "CottonWeeksLaw"
def lw_P (b : Addr) (xs : List Int32) (args : Array Value) (s : State) : Prop := args = #[.ref b] ∧ s.IntsAt b xs ∧ xs.length ≤ 3072 ∧ (Jvm.Cond.and given_1 narrow_1).before args s = true
def lw_Q (_ : Array Value) (s : State) (o : Outcome) (t : State) : Prop := o = .returned (some (.int 1)) ∧ Framed s o t [] 600000 7302250
def lw_Z (below : List Frame) (a : Array Value) (s : State) : State → Prop := fun t => ∃ o, t.status = .running ∧ Ended t below o ∧ lw_Q a s o t
/-- the law's own end, with 1 on the stack, nothing written that was there before, its room as the claim has it -/
theorem lw_ret {p : Program} {l : Launch} {e : Env} {s : State} {m : MethodId} {below : List Frame} {meth : Method} {c : Code} {b : Nat} (hx : p.tables.exec = Jvm.exec) (hb : c.code = code) (hr : meth.sig.returnType = ret) (hlocks : meth.locks = false) {pc : Nat} {H : Heap} {ls : Array Slot} (hdg : decode code pc = .ok (.ireturn, 1)) : W p l e room_1 s m #[Value.ref b] below meth c H [] 600000 7302250 (lw_Z below #[Value.ref b] s) (F0 m pc ls [.int 1]) := by
  intro T hT X
  obtain ⟨fs, hret, hrun, hended, hW, hframe⟩ := X.leave (v := some (.int 1)) (hlocks := hlocks) (fun h => by rw [hr] at h; cases h)
  have hmeth' : T.vm.method? m = some meth := X.method'
  refine ⟨T.setFrames fs, ?_, .returned (some (.int 1)), hrun, hended, rfl, ⟨_, rfl⟩, hW, hframe⟩
  jvm_step X.here [X.here.top, hx, hb, hdg, hmeth', hr, ret, narrow_b1]
  (try refine ⟨rfl, ?_⟩); (try refine ⟨rfl, ?_⟩)
  first | (intro acts; rw [hret _ acts rfl rfl rfl]) | rw [hret _ _ rfl rfl rfl]
  exact Steps.refl _
/-- what holds at the law's entry: the machine, the code, the tables' words (any of lw_tbl by 'hts w (by decide +kernel)'), the script of L ints xs at the cell b, what the Statement gives of the start (any of its parts by flat_of_before) -/
def lw_At (p : Program) (s : State) (m : MethodId) (meth : Method) (c : Code) (b L : Nat) (xs : Nat → Int32) : Prop :=
  p.tables.exec = Jvm.exec ∧ c.code = code ∧ meth.sig.returnType = ret ∧ c.maxLocals = 4 ∧ s.vm.findClass R_law = some m.cls ∧ (∀ w ∈ lw_tbl, w.before #[Value.ref b] s = true) ∧ va_X b L xs s s.heap ∧ b < s.heap.size ∧ meth.locks = false ∧ (Jvm.Cond.and given_1 narrow_1).before #[Value.ref b] s = true
/-! the law: a judgement over its own body -/
def LA (l : Launch) (b L : Nat) (xs : Nat → Int32) (D : va_G) (c : Nat → ClassId) (ad : Nat → Nat → Nat) (sz kc ks pc : Nat) (lv : List (Nat × Value)) (st : List Value) (J : Heap → Prop) : Prop :=
  ∀ (p : Program) (e : Env) (s0 : State) (m : MethodId) (below : List Frame) (meth : Method) (cd : Code) (H : Heap) (locs : List Loc) (ls : Array Slot),
    lw_At p s0 m meth cd b L xs → va_K D vwCl (tyL c) s0 → SF (fun q => sz ≤ q) ad s0 → EC s0 → s0.heap.size = sz → J H → va_S (fun q => sz ≤ q) s0.heap H locs → lv_has ls 4 lv →
    W p l e room_1 s0 m #[Value.ref b] below meth cd H locs kc ks (lw_Z below #[Value.ref b] s0) (F0 m pc ls st)
section LAR
variable {l : Launch} {b L : Nat} {xs : Nat → Int32} {D : va_G} {c : Nat → ClassId} {ad : Nat → Nat → Nat} {sz kc ks pc : Nat} {lv : List (Nat × Value)} {st : List Value} {J : Heap → Prop}
theorem l_iconst {n : Int} {v : Int32} (hd : decode cL_law pc = .ok (.iconst n, 1)) (hv : Int32.ofInt n = v) (k : LA l b L xs D c ad sz kc ks (pc + 1) lv (.int v :: st) J) : LA l b L xs D c ad sz kc ks pc lv st J :=
  fun p e s0 m below meth cd H locs ls C hK hS hE hz hJ hV hl => lv_iconst C.1 C.2.1 hd hv (k p e s0 m below meth cd H locs ls C hK hS hE hz hJ hV hl)
theorem l_bipush {n : Int} {v : Int32} (hd : decode cL_law pc = .ok (.bipush n, 2)) (hv : (Int8.ofInt n).toInt32 = v) (k : LA l b L xs D c ad sz kc ks (pc + 2) lv (.int v :: st) J) : LA l b L xs D c ad sz kc ks pc lv st J :=
  fun p e s0 m below meth cd H locs ls C hK hS hE hz hJ hV hl => lv_bipush C.1 C.2.1 hd hv (k p e s0 m below meth cd H locs ls C hK hS hE hz hJ hV hl)
theorem l_aload_n {n : Fin 4} {i : Nat} {x : Nat} (hd : decode cL_law pc = .ok (.aload_n n, 1)) (q : Nat) (hi : (n : Nat) = i) (hq : lv[q]? = some (i, .ref x)) (k : LA l b L xs D c ad sz kc ks (pc + 1) lv (.ref x :: st) J) : LA l b L xs D c ad sz kc ks pc lv st J :=
  fun p e s0 m below meth cd H locs ls C hK hS hE hz hJ hV hl => lv_aload_n C.1 C.2.1 hd hi (lv_at hl q hq) (k p e s0 m below meth cd H locs ls C hK hS hE hz hJ hV hl)
theorem l_iload_n {n : Fin 4} {i : Nat} {x : Int32} (hd : decode cL_law pc = .ok (.iload_n n, 1)) (q : Nat) (hi : (n : Nat) = i) (hq : lv[q]? = some (i, .int x)) (k : LA l b L xs D c ad sz kc ks (pc + 1) lv (.int x :: st) J) : LA l b L xs D c ad sz kc ks pc lv st J :=
  fun p e s0 m below meth cd H locs ls C hK hS hE hz hJ hV hl => lv_iload_n C.1 C.2.1 hd hi (lv_at hl q hq) (k p e s0 m below meth cd H locs ls C hK hS hE hz hJ hV hl)
theorem l_iadd {x y : Int32} (hd : decode cL_law pc = .ok (.iadd, 1)) (k : LA l b L xs D c ad sz kc ks (pc + 1) lv (.int (x + y) :: st) J) : LA l b L xs D c ad sz kc ks pc lv (.int y :: .int x :: st) J :=
  fun p e s0 m below meth cd H locs ls C hK hS hE hz hJ hV hl => lv_iadd C.1 C.2.1 hd (k p e s0 m below meth cd H locs ls C hK hS hE hz hJ hV hl)
theorem l_isub {x y : Int32} (hd : decode cL_law pc = .ok (.isub, 1)) (k : LA l b L xs D c ad sz kc ks (pc + 1) lv (.int (x - y) :: st) J) : LA l b L xs D c ad sz kc ks pc lv (.int y :: .int x :: st) J :=
  fun p e s0 m below meth cd H locs ls C hK hS hE hz hJ hV hl => lv_isub C.1 C.2.1 hd (k p e s0 m below meth cd H locs ls C hK hS hE hz hJ hV hl)
theorem l_iand {x y : Int32} (hd : decode cL_law pc = .ok (.iand, 1)) (k : LA l b L xs D c ad sz kc ks (pc + 1) lv (.int (x &&& y) :: st) J) : LA l b L xs D c ad sz kc ks pc lv (.int y :: .int x :: st) J :=
  fun p e s0 m below meth cd H locs ls C hK hS hE hz hJ hV hl => lv_iand C.1 C.2.1 hd (k p e s0 m below meth cd H locs ls C hK hS hE hz hJ hV hl)
theorem l_land {x y : Int64} (hd : decode cL_law pc = .ok (.land, 1)) (k : LA l b L xs D c ad sz kc ks (pc + 1) lv (.long (x &&& y) :: st) J) : LA l b L xs D c ad sz kc ks pc lv (.long y :: .long x :: st) J :=
  fun p e s0 m below meth cd H locs ls C hK hS hE hz hJ hV hl => lv_land C.1 C.2.1 hd (k p e s0 m below meth cd H locs ls C hK hS hE hz hJ hV hl)
theorem l_lor {x y : Int64} (hd : decode cL_law pc = .ok (.lor, 1)) (k : LA l b L xs D c ad sz kc ks (pc + 1) lv (.long (x ||| y) :: st) J) : LA l b L xs D c ad sz kc ks pc lv (.long y :: .long x :: st) J :=
  fun p e s0 m below meth cd H locs ls C hK hS hE hz hJ hV hl => lv_lor C.1 C.2.1 hd (k p e s0 m below meth cd H locs ls C hK hS hE hz hJ hV hl)
theorem l_i2l {x : Int32} (hd : decode cL_law pc = .ok (.i2l, 1)) (k : LA l b L xs D c ad sz kc ks (pc + 1) lv (.long x.toInt64 :: st) J) : LA l b L xs D c ad sz kc ks pc lv (.int x :: st) J :=
  fun p e s0 m below meth cd H locs ls C hK hS hE hz hJ hV hl => lv_i2l C.1 C.2.1 hd rfl (k p e s0 m below meth cd H locs ls C hK hS hE hz hJ hV hl)
theorem l_lshl {x : Int64} {y : Int32} (hd : decode cL_law pc = .ok (.lshl, 1)) (k : LA l b L xs D c ad sz kc ks (pc + 1) lv (.long (x <<< (y.toInt64 &&& 63)) :: st) J) : LA l b L xs D c ad sz kc ks pc lv (.int y :: .long x :: st) J :=
  fun p e s0 m below meth cd H locs ls C hK hS hE hz hJ hV hl => lv_lshl C.1 C.2.1 hd rfl (k p e s0 m below meth cd H locs ls C hK hS hE hz hJ hV hl)
theorem l_ldc2 {idx : Nat} {v : Int64} (hc : Cond.constantLong R_law idx v ∈ gtab) (hd : decode cL_law pc = .ok (.ldc2_w idx, 3)) (k : LA l b L xs D c ad sz kc ks (pc + 3) lv (.long v :: st) J) : LA l b L xs D c ad sz kc ks pc lv st J :=
  fun p e s0 m below meth cd H locs ls C hK hS hE hz hJ hV hl => lv_ldc2 C.1 C.2.1 C.2.2.2.2.1 (C.2.2.2.2.2.1 _ (gtab_good hc).1) hd (k p e s0 m below meth cd H locs ls C hK hS hE hz hJ hV hl)
theorem l_goto {off : Int} (tgt : Nat) (hd : decode cL_law pc = .ok (.goto off, 3)) (ht : (pc : Int) + off = (tgt : Int)) (k : LA l b L xs D c ad sz kc ks tgt lv st J) : LA l b L xs D c ad sz kc ks pc lv st J :=
  fun p e s0 m below meth cd H locs ls C hK hS hE hz hJ hV hl => lv_goto C.1 C.2.1 hd ht (k p e s0 m below meth cd H locs ls C hK hS hE hz hJ hV hl)
theorem l_dup {v : Value} (hd : decode cL_law pc = .ok (.dup, 1)) (hv : v.category = 1) (k : LA l b L xs D c ad sz kc ks (pc + 1) lv (v :: v :: st) J) : LA l b L xs D c ad sz kc ks pc lv (v :: st) J :=
  fun p e s0 m below meth cd H locs ls C hK hS hE hz hJ hV hl => lv_dup C.1 C.2.1 hd hv (k p e s0 m below meth cd H locs ls C hK hS hE hz hJ hV hl)
theorem l_tabOut {dflt lo hi : Int} {offs : Array Int} {len : Nat} {x : Int32} (tgt : Nat) (hd : decode cL_law pc = .ok (.tableswitch dflt lo hi offs, len)) (h : x.toInt < lo ∨ hi < x.toInt) (ht : (pc : Int) + dflt = (tgt : Int)) (k : LA l b L xs D c ad sz kc ks tgt lv st J) : LA l b L xs D c ad sz kc ks pc lv (.int x :: st) J :=
  fun p e s0 m below meth cd H locs ls C hK hS hE hz hJ hV hl => lv_tableOut C.1 C.2.1 hd h ht (k p e s0 m below meth cd H locs ls C hK hS hE hz hJ hV hl)
theorem l_tabIn {dflt lo hi : Int} {offs : Array Int} {len : Nat} {x : Int32} {off : Int} (tgt : Nat) (hd : decode cL_law pc = .ok (.tableswitch dflt lo hi offs, len)) (h1 : ¬ x.toInt < lo) (h2 : ¬ hi < x.toInt) (ho : offs[(x.toInt - lo).toNat]? = some off) (ht : (pc : Int) + off = (tgt : Int)) (k : LA l b L xs D c ad sz kc ks tgt lv st J) : LA l b L xs D c ad sz kc ks pc lv (.int x :: st) J :=
  fun p e s0 m below meth cd H locs ls C hK hS hE hz hJ hV hl => lv_tableIn C.1 C.2.1 hd h1 h2 ho ht (k p e s0 m below meth cd H locs ls C hK hS hE hz hJ hV hl)
theorem l_istore_n {n : Fin 4} {i : Nat} {x : Int32} (lv' : List (Nat × Value)) (hd : decode cL_law pc = .ok (.istore_n n, 1)) (hi : (n : Nat) = i) (hn : i < 4) (hl' : (i, Value.int x) :: lv.filter (fun q => !(q.1 == i) && !(q.1 + 1 == i && q.2.category == 2)) = lv') (k : LA l b L xs D c ad sz kc ks (pc + 1) lv' st J) : LA l b L xs D c ad sz kc ks pc lv (.int x :: st) J :=
  fun p e s0 m below meth cd H locs ls C hK hS hE hz hJ hV hl => lv_istore_n C.1 C.2.1 hd hi hl hn hl' (fun ls' h' => k p e s0 m below meth cd H locs ls' C hK hS hE hz hJ hV h')
theorem l_astore_n {n : Fin 4} {i : Nat} {x : Nat} (lv' : List (Nat × Value)) (hd : decode cL_law pc = .ok (.astore_n n, 1)) (hi : (n : Nat) = i) (hn : i < 4) (hl' : (i, Value.ref x) :: lv.filter (fun q => !(q.1 == i) && !(q.1 + 1 == i && q.2.category == 2)) = lv') (k : LA l b L xs D c ad sz kc ks (pc + 1) lv' st J) : LA l b L xs D c ad sz kc ks pc lv (.ref x :: st) J :=
  fun p e s0 m below meth cd H locs ls C hK hS hE hz hJ hV hl => lv_astore_n C.1 C.2.1 hd hi hl hn hl' (fun ls' h' => k p e s0 m below meth cd H locs ls' C hK hS hE hz hJ hV h')
theorem l_iinc {i : Nat} {n : Int} {x v : Int32} (lv' : List (Nat × Value)) (hd : decode cL_law pc = .ok (.iinc i n, 3)) (q : Nat) (hq : lv[q]? = some (i, .int x)) (hv : x + Int32.ofInt n = v) (hn : i < 4) (hl' : (i, Value.int v) :: lv.filter (fun q => !(q.1 == i) && !(q.1 + 1 == i && q.2.category == 2)) = lv') (k : LA l b L xs D c ad sz kc ks (pc + 3) lv' st J) : LA l b L xs D c ad sz kc ks pc lv st J :=
  fun p e s0 m below meth cd H locs ls C hK hS hE hz hJ hV hl => lv_iinc C.1 C.2.1 hd hl hq hv hn hl' (fun ls' h' => k p e s0 m below meth cd H locs ls' C hK hS hE hz hJ hV h')
theorem l_icmp_gt {x y : Int32} {off : Int} (tgt : Nat) (hd : decode cL_law pc = .ok (.if_icmp .gt off, 3)) (ht : (pc : Int) + off = (tgt : Int)) (kt : y < x → LA l b L xs D c ad sz kc ks tgt lv st J) (kf : ¬ y < x → LA l b L xs D c ad sz kc ks (pc + 3) lv st J) : LA l b L xs D c ad sz kc ks pc lv (.int y :: .int x :: st) J :=
  fun p e s0 m below meth cd H locs ls C hK hS hE hz hJ hV hl => lv_icmp_gt C.1 C.2.1 hd ht (fun q => kt q p e s0 m below meth cd H locs ls C hK hS hE hz hJ hV hl) (fun q => kf q p e s0 m below meth cd H locs ls C hK hS hE hz hJ hV hl)
theorem l_same {x : Int32} {off : Int} (tgt : Nat) (hd : decode cL_law pc = .ok (.if_icmp .eq off, 3)) (ht : (pc : Int) + off = (tgt : Int)) (k : LA l b L xs D c ad sz kc ks tgt lv st J) : LA l b L xs D c ad sz kc ks pc lv (.int x :: .int x :: st) J :=
  fun p e s0 m below meth cd H locs ls C hK hS hE hz hJ hV hl => lv_icmp_eq C.1 C.2.1 hd ht (fun _ => k p e s0 m below meth cd H locs ls C hK hS hE hz hJ hV hl) (fun q => absurd rfl q)
theorem l_loc (lv' : List (Nat × Value)) (qs : List Nat) (h : lv_pick lv qs = lv') (k : LA l b L xs D c ad sz kc ks pc lv' st J) : LA l b L xs D c ad sz kc ks pc lv st J :=
  fun p e s0 m below meth cd H locs ls C hK hS hE hz hJ hV hl => k p e s0 m below meth cd H locs ls C hK hS hE hz hJ hV (lv_sub hl qs h)
theorem l_J {J' : Heap → Prop} (h : ∀ H, J H → J' H) (k : LA l b L xs D c ad sz kc ks pc lv st J') : LA l b L xs D c ad sz kc ks pc lv st J :=
  fun p e s0 m below meth cd H locs ls C hK hS hE hz hJ hV hl => k p e s0 m below meth cd H locs ls C hK hS hE hz (h H hJ) hV hl
theorem l_wid {kc' ks' : Nat} (h1 : kc ≤ kc') (h2 : ks ≤ ks') (k : LA l b L xs D c ad sz kc' ks' pc lv st J) : LA l b L xs D c ad sz kc ks pc lv st J :=
  fun p e s0 m below meth cd H locs ls C hK hS hE hz hJ hV hl => W.widen h1 h2 (k p e s0 m below meth cd H locs ls C hK hS hE hz hJ hV hl)
theorem l_scr {i : Int32} (hin : vp_in i L) (hd : decode cL_law pc = .ok (.iaload, 1)) (k : LA l b L xs D c ad sz kc ks (pc + 1) lv (.int (xs i.toNatClampNeg) :: st) J) : LA l b L xs D c ad sz kc ks pc lv (.int i :: .ref b :: st) J :=
  fun p e s0 m below meth cd H locs ls C hK hS hE hz hJ hV hl => va_sld C.1 C.2.1 C.2.2.2.2.2.2.1 C.2.2.2.2.2.2.2.1 (by show ¬ sz ≤ b; rw [← hz]; exact Nat.not_le.mpr C.2.2.2.2.2.2.2.1) hV hin hd (k p e s0 m below meth cd H locs ls C hK hS hE hz hJ hV hl)
theorem l_len (hd : decode cL_law pc = .ok (.arraylength, 1)) (k : LA l b L xs D c ad sz kc ks (pc + 1) lv (.int (Int32.ofNat L) :: st) J) : LA l b L xs D c ad sz kc ks pc lv (.ref b :: st) J :=
  fun p e s0 m below meth cd H locs ls C hK hS hE hz hJ hV hl => va_slen C.1 C.2.1 C.2.2.2.2.2.2.1 C.2.2.2.2.2.2.2.1 (by show ¬ sz ≤ b; rw [← hz]; exact Nat.not_le.mpr C.2.2.2.2.2.2.2.1) hV hd (k p e s0 m below meth cd H locs ls C hK hS hE hz hJ hV hl)
theorem l_end (h1 : kc ≤ 600000) (h2 : ks ≤ 7302250) (hd : decode cL_law pc = .ok (.ireturn, 1)) : LA l b L xs D c ad sz kc ks pc lv [.int 1] J :=
  fun p e s0 m below meth cd H locs ls C hK hS hE hz hJ hV hl => va_forget (fun q hq => by rw [hz]; exact hV.2.2 q hq) (W.widen h1 h2 (lw_ret C.1 C.2.1 C.2.2.1 C.2.2.2.2.2.2.2.2.1 hd))
theorem l_after {Z : ZE} {p : Program} {e : Env} {R : Room} {s0 : State} {m : MethodId} {args : Array Value} {below : List Frame} {meth : Method} {cd : Code} {H : Heap} {locs : List Loc} {mc ms : Nat} {Q : State → Prop} {ls : Array Slot} {st0 rest : List Value} {a : Array Value} {r : Option Value} {s1 : St} {AL : Nat → Prop}
    (hr : va_Run p l e R s0 m args below meth cd H locs kc ks mc ms (F0 m pc ls st0) rest (gQ Z (fun r' s' => r' = r ∧ s' = s1) a) (zA Z)) (hS : va_S AL s0.heap H locs) (hA : ∀ q, zA Z q → AL q)
    (kk : ∀ (H1 : Heap) (locs1 : List Loc), zW Z s1 H1 → H.size ≤ H1.size → (∀ q : Nat, q < H.size → ¬ zA Z q → H1[q]? = H[q]?) → va_S AL s0.heap H1 locs1 → W p l e R s0 m args below meth cd H1 locs1 (kc + mc) (ks + ms) Q (F0 m (pc + 3) ls (r.toList ++ rest))) : W p l e R s0 m args below meth cd H locs kc ks Q (F0 m pc ls st0) := by
  intro T hT X
  obtain ⟨v, st₀, t, T', L, h0, X', hL, e1, e2, ⟨r', s', hv, ⟨hr1, hs1⟩, hw, hz, hk⟩, st⟩ := hr T hT X
  cases hv
  subst hr1
  subst hs1
  rw [h0] at hz hk
  obtain ⟨t2, a1, b1⟩ := kk T'.heap (locs ++ L) (by rw [e1]; exact hw) (by rw [e1]; exact hz) (fun q h1 h2 => by rw [e1]; exact hk q h1 h2)
    ⟨Nat.le_trans hS.1 (by rw [e1]; exact hz), fun q h1 h2 => by rw [e1, hk q (Nat.lt_of_lt_of_le h1 hS.1) (fun z => h2 (hA q z))]; exact hS.2.1 q h1 h2, fun q hq => by
      rcases List.mem_append.mp hq with h | h
      · exact hS.2.2 q h
      · exact hA _ (hL q h)⟩ T' rfl X'
  exact ⟨t2, st t2 a1, b1⟩
theorem l_callV {a : Nat → Nat → Nat} {g : Nat × Nat} {x : Nat → Nat → Prop} {t k0 idx : Nat} {y : MethodName} {N : MI} {As rest : List Value} {s : St} {R : Option Value × St} (hx : x t k0) (hl0 : LkV R_law idx y t N As.length) (hf : (mD N + 1 ≤ 2048 ∧ 8 + (mL N + 11) + 40 * mD N ≤ 84000) ∧ kc + mK N ≤ 600000 ∧ ks + mN N ≤ 7302250) (hst : st = As.reverse ++ .ref (a t k0) :: rest) (hrest : (rest.map fun v => v.category).sum ≤ 8) (hd : decode cL_law pc = .ok (.invokevirtual idx, 3))
    (hJ0 : ∀ H, J H → ZW D c a g x s H) (hsz : ∀ t k : Nat, x t k → sz ≤ a t k) (hdist : ∀ t k t' k' : Nat, x t k → x t' k' → a t k = a t' k' → t = t' ∧ k = k') (had : ∀ t k : Nat, 100 ≤ t → a t k = ad t k)
    (hSp : ∀ A : Nat → Prop, OkZ (ZI D c A (fun q => sz ≤ q) ad a g x) → Sp (ZI D c A (fun q => sz ≤ q) ad a g x) l y N (.ref (a t k0) :: As) s R)
    (kk : LA l b L xs D c ad sz (kc + mK N) (ks + mN N) (pc + 3) lv (R.1.toList ++ rest) (fun H1 => ∃ H, J H ∧ ZW D c a g x R.2 H1 ∧ H.size ≤ H1.size ∧ ∀ q : Nat, q < H.size → ¬ (∃ t k : Nat, x t k ∧ a t k = q) → H1[q]? = H[q]?)) : LA l b L xs D c ad sz kc ks pc lv st J :=
  fun p e s0 m below meth cd H locs ls C hK hS hE hz hJ hV hl => by
    subst hst
    obtain ⟨ci, kf, T, hO, hc, h1, h2, h3, h4, h5, h6⟩ := hl0
    have hg : ∀ w ∈ gtab, w.before #[Value.ref b] s0 = true := fun w hw => C.2.2.2.2.2.1 w (gtab_good hw).1
    have hW := hJ0 H hJ
    have hA0 : ∀ q, ((∃ t k : Nat, x t k ∧ a t k = q) ∨ H.size ≤ q) → sz ≤ q := fun q hq => by
      rcases hq with ⟨t, k, h7, h8⟩ | h
      · rw [← h8]
        exact hsz t k h7
      · exact Nat.le_trans (by rw [← hz]; exact hV.1) h
    have hZ := ZI.ok (D := D) (c := c) (g := g) (A := fun q => (∃ t k : Nat, x t k ∧ a t k = q) ∨ H.size ≤ q) (A0 := fun q => sz ≤ q) hdist (fun t k h => Or.inl ⟨t, k, h, rfl⟩) hA0 had
    have hP := one_at (hW t k0 hx)
    rw [cel_O hO] at hP
    have hG := gtab_goodIn h5
    have hcw : CallW room_1 s0 #[Value.ref b] R_law y.cls idx y (mC N) (mL N) (mT N) (Cond.code y (mC N) (mL N) (mT N) :: gtab) (gR N) (mK N) (mN N) As.length :=
      ⟨callB_of As.length hg hG rfl rfl rfl (hg _ h4) (hg _ h1) h6 hf.1, hg _ h2, hg _ h3⟩
    refine l_after (Z := ZI D c (fun q => (∃ t k : Nat, x t k ∧ a t k = q) ∨ H.size ≤ q) (fun q => sz ≤ q) ad a g x) (AL := fun q => sz ≤ q) (va_runV (As := As) (rest := rest) ⟨C.1, C.2.1, C.2.2.2.1, C.2.2.2.2.1, hg⟩ (hSp _ hZ) hcw ⟨g_blind hZ, va_recv hK hP hc (q0 := 0) rfl, fun U hU hw => ⟨rfl, by rw [hU]; exact hW, va_K.moved hw.alike hK, SF.warm (A := fun q => sz ≤ q) hS (fun _ h => h) hw (hV.F hU)⟩⟩ rfl rfl hl.1 rfl (lv_room hrest) hd hf.2) hV hA0 (fun H1 locs1 hW1 hz1 hk1 hV1 => ?_)
    exact kk p e s0 m below meth cd H1 locs1 ls C hK hS hE hz ⟨H, hJ, hW1, hz1, fun q h7 h8 => hk1 q h7 (fun z => by
      rcases z with z | z
      · exact h8 z
      · omega)⟩ hV1 hl
end LAR
