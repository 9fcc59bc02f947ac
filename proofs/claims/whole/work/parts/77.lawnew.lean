/-! the law's call of a method that bears cells -/
theorem cls_inv {D : va_G} {c : Nat → ClassId} {a : Nat → Nat → Nat} {g : Nat × Nat} {s : St} {K : List (Nat × Nat)} {H : Heap} (hK : ∀ t k, exX g t k → (t, k) ∈ K) (h : va_P D vwCl (cls D c a g s K) H) : ZW D c a g (exX g) s H := fun t k hx => by
  obtain ⟨i, hi⟩ := List.mem_iff_getElem?.mp (hK t k hx)
  exact h i _ (by rw [cls, List.getElem?_map, hi]; rfl)
theorem cls_facts {D : va_G} {c : Nat → ClassId} {a : Nat → Nat → Nat} {g : Nat × Nat} {s : St} {K : List (Nat × Nat)} {A : Nat → Prop} (hK : ∀ t k, exX g t k → (t, k) ∈ K) (h : va_D A (cls D c a g s K)) : (∀ t k, exX g t k → A (a t k)) ∧ ∀ t k t' k' : Nat, exX g t k → exX g t' k' → a t k = a t' k' → t = t' ∧ k = k' := by
  have at1 : ∀ t k, exX g t k → ∃ i : Nat, K[i]? = some (t, k) ∧ (cls D c a g s K)[i]? = some (a t k, cel (Zd D c a g (exX g)) s t k) := fun t k hx => by
    obtain ⟨i, hi⟩ := List.mem_iff_getElem?.mp (hK t k hx)
    exact ⟨i, hi, by rw [cls, List.getElem?_map, hi]; rfl⟩
  refine ⟨fun t k hx => ?_, fun t k t' k' hx hx' e => ?_⟩
  · obtain ⟨i, h1, h2⟩ := at1 t k hx
    exact h.2 i _ h2
  · obtain ⟨i, h1, h2⟩ := at1 t k hx
    obtain ⟨j, h3, h4⟩ := at1 t' k' hx'
    have h5 := h.1 i j _ _ h2 h4 e
    rw [h5, h3] at h1
    have h6 := Option.some.inj h1
    exact ⟨(congrArg Prod.fst h6).symm, (congrArg Prod.snd h6).symm⟩
theorem exM_g {g g' : Nat × Nat} {t k : Nat} (h : exM g t k) : exM g' t k := by
  have h0 := exM_0 h
  subst h0
  obtain ⟨⟨h1, h2⟩, h3⟩ := h
  refine ⟨⟨h1, h2⟩, ?_⟩
  have : t = 60 ∨ t = 61 ∨ t = 62 ∨ t = 63 ∨ t = 64 ∨ t = 65 ∨ t = 66 ∨ t = 67 ∨ t = 68 ∨ t = 69 ∨ t = 70 ∨ t = 71 ∨ t = 72 ∨ t = 73 ∨ t = 74 ∨ t = 75 ∨ t = 76 ∨ t = 77 ∨ t = 78 ∨ t = 79 ∨ t = 80 ∨ t = 81 ∨ t = 82 ∨ t = 83 ∨ t = 84 ∨ t = 85 ∨ t = 86 ∨ t = 87 ∨ t = 88 ∨ t = 89 ∨ t = 90 ∨ t = 91 ∨ t = 92 ∨ t = 93 ∨ t = 94 := by omega
  rcases this with rfl | rfl | rfl | rfl | rfl | rfl | rfl | rfl | rfl | rfl | rfl | rfl | rfl | rfl | rfl | rfl | rfl | rfl | rfl | rfl | rfl | rfl | rfl | rfl | rfl | rfl | rfl | rfl | rfl | rfl | rfl | rfl | rfl | rfl | rfl <;> exact Nat.one_pos
theorem ZW_M {D : va_G} {c : Nat → ClassId} {a : Nat → Nat → Nat} {g g' : Nat × Nat} {u : St} {H : Heap} (h : ZW D c a g (exM g) u H) : ZW D c a g' (exM g') u H := fun t k hx => by
  have h1 := h t k (exM_g hx)
  have h0 := exM_0 hx
  subst h0
  obtain ⟨⟨h2, h3⟩, -⟩ := hx
  have : t = 60 ∨ t = 61 ∨ t = 62 ∨ t = 63 ∨ t = 64 ∨ t = 65 ∨ t = 66 ∨ t = 67 ∨ t = 68 ∨ t = 69 ∨ t = 70 ∨ t = 71 ∨ t = 72 ∨ t = 73 ∨ t = 74 ∨ t = 75 ∨ t = 76 ∨ t = 77 ∨ t = 78 ∨ t = 79 ∨ t = 80 ∨ t = 81 ∨ t = 82 ∨ t = 83 ∨ t = 84 ∨ t = 85 ∨ t = 86 ∨ t = 87 ∨ t = 88 ∨ t = 89 ∨ t = 90 ∨ t = 91 ∨ t = 92 ∨ t = 93 ∨ t = 94 := by omega
  rcases this with rfl | rfl | rfl | rfl | rfl | rfl | rfl | rfl | rfl | rfl | rfl | rfl | rfl | rfl | rfl | rfl | rfl | rfl | rfl | rfl | rfl | rfl | rfl | rfl | rfl | rfl | rfl | rfl | rfl | rfl | rfl | rfl | rfl | rfl | rfl <;> exact h1
def AH (g : Nat × Nat) (a : Nat → Nat → Nat) (n : Nat) (q : Nat) : Prop := (∃ t k : Nat, exX g t k ∧ a t k = q) ∨ n ≤ q
theorem l_callG {l : Launch} {b L : Nat} {xs : Nat → Int32} {D : va_G} {c : Nat → ClassId} {ad : Nat → Nat → Nat} {sz kc ks pc : Nat} {lv : List (Nat × Value)} {st : List Value} {g : Nat × Nat} {aX aM : Nat → Nat → Nat} {s u : St} (hAd : LAd sz ad g aX aM) {y : MethodName} {N : MI} {idx : Nat} {As rest : List Value} {Pst : Int32 → va_W → Prop} (Good : Int32 → Nat × Nat → St → Prop) (hl0 : LkV R_law idx y 0 N As.length) (hf : (mD N + 1 ≤ 2048 ∧ 8 + (mL N + 11) + 40 * mD N ≤ 84000) ∧ kc + mK N ≤ 600000 ∧ ks + mN N ≤ 7302250) (hst : st = As.reverse ++ .ref (aX 0 0) :: rest) (hrest : (rest.map fun v => v.category).sum ≤ 8) (hd : decode cL_law pc = .ok (.invokevirtual idx, 3))
    (hSp : ∀ (A : Nat → Prop) (n : Nat), OkZ (ZJ D c A (fun q => sz ≤ q) ad aX g (exX g) n) → (∀ q, n ≤ q → A q) → (∀ t k : Nat, exX g t k → A (aX t k)) → SpQ (ZJ D c A (fun q => sz ≤ q) ad aX g (exX g) n) l y N (.ref (aX 0 0) :: As) s (cQi D A Pst))
    (hG : ∀ (r : Int32) (w : va_W), Pst r w → ∃ (g' : Nat × Nat) (a' : Nat → Nat → Nat) (s' : St) (K' : List (Nat × Nat)), w = cls D c a' g' s' K' ∧ (∀ t k, exX g' t k → (t, k) ∈ K') ∧ (∀ t k : Nat, 100 ≤ t → a' t k = aX t k) ∧ a' 0 0 = aX 0 0 ∧ Good r g' s')
    (kk : ∀ (r : Int32) (g' : Nat × Nat) (a' : Nat → Nat → Nat) (s' : St), Good r g' s' → a' 0 0 = aX 0 0 → LAd sz ad g' a' aM → LA l b L xs D c ad sz (kc + mK N) (ks + mN N) (pc + 3) lv (.int r :: rest) (LJ D c g' a' aM s' u)) : LA l b L xs D c ad sz kc ks pc lv st (LJ D c g aX aM s u) :=
  fun p e s0 m below meth cd H locs ls C hK hS hE hz hJ hV hl => by
    subst hst
    obtain ⟨h1, h2, h3, h4, h5, h6, h7⟩ := hAd
    obtain ⟨ci, kf, T, hO, hc, k1, k2, k3, k4, k5, k6⟩ := hl0
    have hg : ∀ w ∈ gtab, w.before #[Value.ref b] s0 = true := fun w hw => C.2.2.2.2.2.1 w (gtab_good hw).1
    have hA0 : ∀ q, AH g aX H.size q → sz ≤ q := fun q hq => by
      rcases hq with ⟨t, k, h7, h8⟩ | h
      · rw [← h8]
        exact h1 t k h7
      · exact Nat.le_trans (by rw [← hz]; exact hV.1) h
    have hZ := ZJ.ok (D := D) (c := c) (g := g) (sz := H.size) (A := AH g aX H.size) (A0 := fun q => sz ≤ q) h3 (fun t k h => Or.inl ⟨t, k, h, rfl⟩) hA0 h6
    have hP := one_at (hJ.1 0 0 ⟨by decide, Nat.one_pos⟩)
    rw [cel_O hO] at hP
    have hGi := gtab_goodIn k5
    have hcw : CallW room_1 s0 #[Value.ref b] R_law y.cls idx y (mC N) (mL N) (mT N) (Cond.code y (mC N) (mL N) (mT N) :: gtab) (gR N) (mK N) (mN N) As.length :=
      ⟨callB_of As.length hg hGi rfl rfl rfl (hg _ k4) (hg _ k1) k6 hf.1, hg _ k2, hg _ k3⟩
    refine va_calli (va_runV (As := As) (rest := rest) ⟨C.1, C.2.1, C.2.2.2.1, C.2.2.2.2.1, hg⟩ (hSp _ H.size hZ (fun q h => Or.inr h) (fun t k h => Or.inl ⟨t, k, h, rfl⟩)) hcw ⟨g_blind hZ, va_recv hK hP hc (q0 := 0) rfl, fun U hU hw => ⟨rfl, by rw [hU]; exact hJ.1, va_K.moved hw.alike hK, SF.warm (A := fun q => sz ≤ q) hS (fun _ h => h) hw (hV.F hU), hE.warm hw, by rw [hU]; exact Nat.le_refl _⟩⟩ rfl rfl hl.1 rfl (lv_room hrest) hd hf.2) hV (fun q _ h => hA0 q h) hA0 (fun r w t H1 locs1 ht hvm hp hB hz1 hk1 hS1 => ?_)
    obtain ⟨hP1, hD1⟩ := hB
    rw [ht] at hP1
    obtain ⟨g', a', s', K', rfl, hmem, hh, h00, hGd⟩ := hG r w hp
    obtain ⟨f1, f2⟩ := cls_facts hmem hD1
    refine kk r g' a' s' hGd h00 ⟨fun t k hx => hA0 _ (f1 t k hx), fun t k hx => h2 t k (exM_g hx), f2, fun t k t' k' hx hx' => h4 t k t' k' (exM_g hx) (exM_g hx'), fun t k t' k' hx hx' he => ?_, fun t k ht => (hh t k ht).trans (h6 t k ht), h7⟩ p e s0 m below meth cd H1 locs1 ls C hK hS hE hz ⟨cls_inv hmem hP1, ZW_M (g := g) (fun t k hx => (hJ.2 t k hx).kept (hk1 _ ((hJ.2 t k hx).lt) (fun z => ?_)))⟩ hS1 hl
    · have hlt : aM t' k' < H.size := (hJ.2 t' k' (exM_g hx')).lt
      rcases f1 t k hx with ⟨t2, k2, h8, h9⟩ | h8
      · exact h5 t2 k2 t' k' h8 (exM_g hx') (h9.trans he)
      · rw [he] at h8
        omega
    · have hlt : aM t k < H.size := (hJ.2 t k hx).lt
      rcases z with ⟨t', k', h8, h9⟩ | h8
      · exact h5 t' k' t k h8 hx h9
      · omega
/-! the mill's cells -/
def aMill (a : Nat → Nat → Nat) (n h q1 q2 : Nat) : Nat → Nat → Nat := fun t k => match t with
  | 14 => if k = n then h else a 14 k
  | 15 => if k = n then q1 else a 15 k
  | 16 => if k = n then q2 else a 16 k
  | t => a t k
def mlF (a1 a2 a3 a4 : Int32) : Nat → Int32 := fun j => match j with
  | 0 => a1
  | 1 => a2
  | 2 => a3
  | 3 => a4
  | _ => 0
def sMill (s : St) (n : Nat) (a1 a2 a3 a4 : Int32) (f2 : Nat → Int32) : St := fun t k => match t with
  | 4 => fun j => if j = 12 then s 4 0 12 + 1 else s 4 k j
  | 14 => if k = n then mlF a1 a2 a3 a4 else s 14 k
  | 15 => if k = n then fun _ => 0 else s 15 k
  | 16 => if k = n then f2 else s 16 k
  | t => s t k
set_option maxHeartbeats 8000000 in
set_option maxRecDepth 100000 in
theorem mill_cls {D : va_G} {c : Nat → ClassId} {a : Nat → Nat → Nat} {g : Nat × Nat} {s : St} {L : List (Nat × Nat)} {a1 a2 a3 a4 : Int32} {h q1 q2 : Nat} {f2 : Nat → Int32} (hn : (s 4 0 12).toNatClampNeg = g.1) (hx : ∀ t k, (t, k) ∈ [(4, 0), (13, 0)] ++ L → exX g t k) (hK : NI ([(4, 0), (13, 0)] ++ L)) :
    ml_new c (a 4 0) (a 13 0) ((List.range 14).map (fvl (Zd D c a g (exX g)) s 4 0)) (fun i => if i < shN g 14 then some (a 14 i) else none) (s 4 0 12) a1 a2 a3 a4 h q1 q2 f2 ++ cls D c a g s L = cls D c (aMill a g.1 h q1 q2) (g.1 + 1, g.2) (sMill s g.1 a1 a2 a3 a4 f2) ([(16, g.1), (15, g.1), (14, g.1), (4, 0), (13, 0)] ++ L) := by
  have n4 : (4, 0) ∉ L := fun h => by
    obtain ⟨i, hi⟩ := List.mem_iff_getElem?.mp h
    have := hK 0 (2 + i) (4, 0) rfl (by rw [List.getElem?_append_right (by show 2 ≤ 2 + i; omega)]; simpa using hi)
    omega
  have n13 : (13, 0) ∉ L := fun h => by
    obtain ⟨i, hi⟩ := List.mem_iff_getElem?.mp h
    have := hK 1 (2 + i) (13, 0) rfl (by rw [List.getElem?_append_right (by show 2 ≤ 2 + i; omega)]; simpa using hi)
    omega
  have hL : cls D c a g s L = cls D c (aMill a g.1 h q1 q2) (g.1 + 1, g.2) (sMill s g.1 a1 a2 a3 a4 f2) L := by
    refine List.map_congr_left (fun p hp => ?_)
    obtain ⟨t, k⟩ := p
    obtain ⟨h1, h2⟩ := hx t k (List.mem_append_right _ hp)
    have hc : t = 0 ∨ t = 1 ∨ t = 2 ∨ t = 3 ∨ t = 4 ∨ t = 5 ∨ t = 6 ∨ t = 7 ∨ t = 8 ∨ t = 9 ∨ t = 10 ∨ t = 11 ∨ t = 12 ∨ t = 13 ∨ t = 14 ∨ t = 15 ∨ t = 16 ∨ t = 17 ∨ t = 18 ∨ t = 19 ∨ t = 20 ∨ t = 21 ∨ t = 22 ∨ t = 23 ∨ t = 24 ∨ t = 25 ∨ t = 26 ∨ t = 27 ∨ t = 28 ∨ t = 29 ∨ t = 30 ∨ t = 31 ∨ t = 32 ∨ t = 33 ∨ t = 34 ∨ t = 35 ∨ t = 36 ∨ t = 37 ∨ t = 38 ∨ t = 39 ∨ t = 40 ∨ t = 41 ∨ t = 42 ∨ t = 43 ∨ t = 44 ∨ t = 45 ∨ t = 46 := by omega
    rcases hc with rfl | rfl | rfl | rfl | rfl | rfl | rfl | rfl | rfl | rfl | rfl | rfl | rfl | rfl | rfl | rfl | rfl | rfl | rfl | rfl | rfl | rfl | rfl | rfl | rfl | rfl | rfl | rfl | rfl | rfl | rfl | rfl | rfl | rfl | rfl | rfl | rfl | rfl | rfl | rfl | rfl | rfl | rfl | rfl | rfl | rfl | rfl
    case _ | _ | _ | _ => rfl
    · have : k < 1 := h2
      exact absurd (show (4, 0) ∈ L by rw [show (0 : Nat) = k by omega]; exact hp) n4
    case _ | _ | _ | _ | _ | _ | _ | _ => rfl
    · have : k < 1 := h2
      exact absurd (show (13, 0) ∈ L by rw [show (0 : Nat) = k by omega]; exact hp) n13
    · have hne : ¬ k = g.1 := by
        have : k < g.1 := h2
        omega
      show (a 14 k, (Sum.inr (4, [.int (s 14 k 0), .int (s 14 k 1), .int (s 14 k 2), .int (s 14 k 3), .ref (a 15 k), .ref (a 16 k), .int (s 14 k 6), .int (s 14 k 7)]) : va_E)) = (if k = g.1 then h else a 14 k, (Sum.inr (4, [.int ((if k = g.1 then mlF a1 a2 a3 a4 else s 14 k) 0), .int ((if k = g.1 then mlF a1 a2 a3 a4 else s 14 k) 1), .int ((if k = g.1 then mlF a1 a2 a3 a4 else s 14 k) 2), .int ((if k = g.1 then mlF a1 a2 a3 a4 else s 14 k) 3), .ref (if k = g.1 then q1 else a 15 k), .ref (if k = g.1 then q2 else a 16 k), .int ((if k = g.1 then mlF a1 a2 a3 a4 else s 14 k) 6), .int ((if k = g.1 then mlF a1 a2 a3 a4 else s 14 k) 7)]) : va_E))
      simp only [if_neg hne]
    · have hne : ¬ k = g.1 := by
        have : k < g.1 := h2
        omega
      show (a 15 k, (Sum.inl (c 0, 4, .inl (s 15 k)) : va_E)) = (if k = g.1 then q1 else a 15 k, .inl (c 0, 4, .inl (if k = g.1 then fun _ => 0 else s 15 k)))
      simp only [if_neg hne]
    · have hne : ¬ k = g.1 := by
        have : k < g.1 := h2
        omega
      show (a 16 k, (Sum.inl (c 0, 100, .inl (s 16 k)) : va_E)) = (if k = g.1 then q2 else a 16 k, .inl (c 0, 100, .inl (if k = g.1 then f2 else s 16 k)))
      simp only [if_neg hne]
    all_goals rfl
  rw [hL]
  have e5 : va_up (fun i => if i < shN g 14 then some (a 14 i) else none) (s 4 0 12).toNatClampNeg (some h) = fun i => if i < g.1 + 1 then some (if i = g.1 then h else a 14 i) else none := by
    rw [hn]
    funext i
    show (if i = g.1 then some h else if i < g.1 then some (a 14 i) else none) = _
    by_cases z1 : i = g.1
    · rw [if_pos z1, if_pos (by omega), if_pos z1]
    · rw [if_neg z1, if_neg z1]
      by_cases z2 : i < g.1
      · rw [if_pos z2, if_pos (by omega)]
      · rw [if_neg z2, if_neg (by omega)]
  have e : ml_new c (a 4 0) (a 13 0) ((List.range 14).map (fvl (Zd D c a g (exX g)) s 4 0)) (fun i => if i < shN g 14 then some (a 14 i) else none) (s 4 0 12) a1 a2 a3 a4 h q1 q2 f2 = cls D c (aMill a g.1 h q1 q2) (g.1 + 1, g.2) (sMill s g.1 a1 a2 a3 a4 f2) [(16, g.1), (15, g.1), (14, g.1), (4, 0), (13, 0)] := by
    unfold ml_new
    rw [e5]
    show _ = [((if g.1 = g.1 then q2 else a 16 g.1), (Sum.inl (c 0, 100, .inl (if g.1 = g.1 then f2 else s 16 g.1)) : va_E)), ((if g.1 = g.1 then q1 else a 15 g.1), .inl (c 0, 4, .inl (if g.1 = g.1 then fun _ => 0 else s 15 g.1))), ((if g.1 = g.1 then h else a 14 g.1), .inr (4, [.int ((if g.1 = g.1 then mlF a1 a2 a3 a4 else s 14 g.1) 0), .int ((if g.1 = g.1 then mlF a1 a2 a3 a4 else s 14 g.1) 1), .int ((if g.1 = g.1 then mlF a1 a2 a3 a4 else s 14 g.1) 2), .int ((if g.1 = g.1 then mlF a1 a2 a3 a4 else s 14 g.1) 3), .ref (if g.1 = g.1 then q1 else a 15 g.1), .ref (if g.1 = g.1 then q2 else a 16 g.1), .int ((if g.1 = g.1 then mlF a1 a2 a3 a4 else s 14 g.1) 6), .int ((if g.1 = g.1 then mlF a1 a2 a3 a4 else s 14 g.1) 7)])), (a 4 0, .inr (1, ((List.range 14).map (fvl (Zd D c a g (exX g)) s 4 0)).set 12 (.int (s 4 0 12 + 1)))), (a 13 0, .inl (c 2, 6, .inr (.inr (.inr (.inr (fun i => if i < g.1 + 1 then some (if i = g.1 then h else a 14 i) else none))))))]
    simp only [↓reduceIte]
    rfl
  rw [e]
  exact List.map_append.symm
