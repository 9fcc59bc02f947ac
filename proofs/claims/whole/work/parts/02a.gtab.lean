def gtab : List Cond := lw_tbl.filter goodWord
theorem gtab_in {w : Cond} (h : w ∈ lw_tbl) (hg : goodWord w = true) : w ∈ gtab := List.mem_filter.mpr ⟨h, hg⟩
theorem gtab_good {w : Cond} (h : w ∈ gtab) : w ∈ lw_tbl ∧ goodWord w = true := List.mem_filter.mp h
theorem gtab_goodIn {c1 : Cond} (h : c1 ∈ gtab) : GoodIn gtab (c1 :: gtab) := fun w hw => by
  have hm : w ∈ gtab := by
    rcases List.mem_cons.mp hw with e | e
    · exact e ▸ h
    · exact e
  exact ⟨hm, good_of_word (gtab_good hm).2⟩
def isNst : Cond → Bool
  | .methodLinkNest _ _ _ _ => true
  | _ => false
def nst : List Cond := lw_tbl.filter isNst
theorem nst_in {w : Cond} (h : w ∈ lw_tbl) (hg : isNst w = true) : w ∈ nst := List.mem_filter.mpr ⟨h, hg⟩
theorem ix_of {ws : List Cond} (ps : List Nat) (hp : ws = ps.filterMap (fun i => tables_1[i]?)) (hg : ws.all goodWord = true) : ∀ w ∈ ws, w ∈ gtab := by
  intro w hw
  have h1 := List.all_eq_true.mp hg w hw
  rw [hp] at hw
  obtain ⟨i, -, hi⟩ := List.mem_filterMap.mp hw
  exact gtab_in (List.mem_append_right _ (List.mem_of_getElem? hi)) h1
theorem ix_in {T ws : List Cond} (hT : ∀ w ∈ T, w ∈ lw_tbl) (ps : List Nat) (hp : ws = ps.filterMap (fun i => T[i]?)) (hg : ws.all goodWord = true) : ∀ w ∈ ws, w ∈ gtab := by
  intro w hw
  have h1 := List.all_eq_true.mp hg w hw
  rw [hp] at hw
  obtain ⟨i, -, hi⟩ := List.mem_filterMap.mp hw
  exact gtab_in (hT w (List.mem_of_getElem? hi)) h1
theorem in_t1 : ∀ w ∈ tables_1_1, w ∈ lw_tbl := fun _ h => List.mem_append_right _ (List.mem_append_left _ h)
theorem in_t2 : ∀ w ∈ tables_1_2, w ∈ lw_tbl := fun _ h => List.mem_append_right _ (List.mem_append_right _ (List.mem_append_left _ h))
theorem in_t3 : ∀ w ∈ tables_1_3, w ∈ lw_tbl := fun _ h => List.mem_append_right _ (List.mem_append_right _ (List.mem_append_right _ (List.mem_append_left _ h)))
theorem in_t4 : ∀ w ∈ tables_1_4, w ∈ lw_tbl := fun _ h => List.mem_append_right _ (List.mem_append_right _ (List.mem_append_right _ (List.mem_append_right _ (List.mem_append_left _ h))))
theorem in_t5 : ∀ w ∈ tables_1_5, w ∈ lw_tbl := fun _ h => List.mem_append_right _ (List.mem_append_right _ (List.mem_append_right _ (List.mem_append_right _ (List.mem_append_right _ (List.mem_append_left _ h)))))
theorem in_t6 : ∀ w ∈ tables_1_6, w ∈ lw_tbl := fun _ h => List.mem_append_right _ (List.mem_append_right _ (List.mem_append_right _ (List.mem_append_right _ (List.mem_append_right _ (List.mem_append_right _ h)))))
theorem ixn_of {ws : List Cond} (ps : List Nat) (hp : ws = ps.filterMap (fun i => tables_1[i]?)) (hg : ws.all isNst = true) : ∀ w ∈ ws, w ∈ nst := by
  intro w hw
  have h1 := List.all_eq_true.mp hg w hw
  rw [hp] at hw
  obtain ⟨i, -, hi⟩ := List.mem_filterMap.mp hw
  exact nst_in (List.mem_append_right _ (List.mem_of_getElem? hi)) h1
