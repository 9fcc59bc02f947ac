/-! the store of both objects: a number for each (sort of cell, which of them, place); the words; the shapes -/
abbrev St : Type := Nat → Nat → Nat → Int32
def up (s : St) (t k j : Nat) (v : Int32) : St := fun a b c => if a = t then (if b = k then (if c = j then v else s a b c) else s a b c) else s a b c
theorem up_ne {s : St} {t k j t' k' : Nat} {v : Int32} (h : ¬ (t' = t ∧ k' = k)) : up s t k j v t' k' = s t' k' := by
  funext c
  unfold up
  by_cases h1 : t' = t
  · by_cases h2 : k' = k
    · exact absurd ⟨h1, h2⟩ h
    · rw [if_pos h1, if_neg h2]
  · rw [if_neg h1]
theorem up_self {s : St} {t k j : Nat} {v : Int32} : up s t k j v t k = upd (s t k) j v := by
  funext c
  simp [up, upd]
theorem up_at {s : St} {t k j : Nat} {v : Int32} : up s t k j v t k j = v := by simp [up]
theorem up_off {s : St} {t k j c : Nat} {v : Int32} (h : c ≠ j) : up s t k j v t k c = s t k c := by simp [up, h]
/-- the run's constants: classes and slots, array classes, what may change, the world, what the tables say of a state, addresses, how many mills and homes there are, which cells are there -/
abbrev ZE : Type := va_G × (Nat → ClassId) × (Nat → Prop) × (St → Heap → Prop) × (State → Prop) × (Nat → Nat → Nat) × (Nat × Nat) × (Nat → Nat → Prop)
abbrev zD (Z : ZE) : va_G := Z.1
abbrev zc (Z : ZE) : Nat → ClassId := Z.2.1
abbrev zA (Z : ZE) : Nat → Prop := Z.2.2.1
abbrev zW (Z : ZE) : St → Heap → Prop := Z.2.2.2.1
abbrev zS (Z : ZE) : State → Prop := Z.2.2.2.2.1
abbrev za (Z : ZE) : Nat → Nat → Nat := Z.2.2.2.2.2.1
abbrev zg (Z : ZE) : Nat × Nat := Z.2.2.2.2.2.2.1
abbrev zx (Z : ZE) : Nat → Nat → Prop := Z.2.2.2.2.2.2.2
abbrev zT (Z : ZE) : List (ClassId × FieldType) := [(zc Z 0, .int), (zc Z 1, .object "CottonWeeks$Sheet"), (zc Z 2, .object "CottonWeeks$Mill"), (zc Z 3, .object "CottonWeeks$Home"), (zc Z 4, .array .int)]
/-! shapes: which sorts of cells there are, by program out of the field tables -/
-- 0 CottonWeeks; 1 CottonWeeks.sheets; 2 CottonWeeks$Sheet; 3 CottonWeeks$Sheet.items; 4 CottonWeeks$County; 5 CottonWeeks$County.base; 6 CottonWeeks$County.breaks; 7 CottonWeeks$County.port; 8 CottonWeeks$County.prices; 9 CottonWeeks$County.shipWeek; 10 CottonWeeks$County.shipSort; 11 CottonWeeks$County.shipBales; 12 CottonWeeks$County.shipThrough; 13 CottonWeeks$County.mills; 14 CottonWeeks$Mill; 15 CottonWeeks$Mill.bales; 16 CottonWeeks$Mill.ranOn; 17 CottonWeeks$Rules; 18 CottonWeeks$Rules.weeks; 19 CottonWeeks$Rules.whats; 20 CottonWeeks$Rules.values; 21 CottonWeeks$Rules.order; 22 CottonWeeks$Rules.ranks; 23 CottonWeeks$Tape; 24 CottonWeeks$Tape.bytes; 25 CottonWeeks.homes; 26 CottonWeeks$Home; 27 CottonWeeks$Home.goods; 28 CottonWeeks$Debts; 29 CottonWeeks$Debts.income; 30 CottonWeeks$Debts.owes; 31 CottonWeeks$Debts.owes[]; 32 CottonWeeks$Debts.owesAll; 33 CottonWeeks$Debts.pays; 34 CottonWeeks$Debts.paysNext; 35 CottonWeeks$Works; 36 CottonWeeks$Works.cost; 37 CottonWeeks$Works.fewer; 38 CottonWeeks$Bodies; 39 CottonWeeks$Bodies.sorts; 40 CottonWeeks$Bodies.numbers; 41 CottonWeeks$Bodies.madeOf; 42 CottonWeeks$Bodies.trace; 43 CottonWeeks$Papers; 44 CottonWeeks$Papers.whats; 45 CottonWeeks$Papers.towns; 46 CottonWeeks$Papers.knownFrom; 60 CottonWeeksModel; 61 CottonWeeksModel.lane; 62 CottonWeeksModel.many; 63 CottonWeeksModel.item; 64 CottonWeeksModel.base; 65 CottonWeeksModel.breaks; 66 CottonWeeksModel.port; 67 CottonWeeksModel.shipWeek; 68 CottonWeeksModel.shipSort; 69 CottonWeeksModel.shipBales; 70 CottonWeeksModel.need; 71 CottonWeeksModel.takes; 72 CottonWeeksModel.margin; 73 CottonWeeksModel.hold; 74 CottonWeeksModel.own; 75 CottonWeeksModel.coin; 76 CottonWeeksModel.ranOn; 77 CottonWeeksModel.lastPrice; 78 CottonWeeksModel.ruleWeek; 79 CottonWeeksModel.ruleWhat; 80 CottonWeeksModel.ruleOf; 81 CottonWeeksModel.ruleNumber; 82 CottonWeeksModel.tape; 83 CottonWeeksModel.goesFirst; 84 CottonWeeksModel.row; 85 CottonWeeksModel.pays; 86 CottonWeeksModel.paysThen; 87 CottonWeeksModel.owesAll; 88 CottonWeeksModel.thingSort; 89 CottonWeeksModel.thingNumber; 90 CottonWeeksModel.madeOf; 91 CottonWeeksModel.newsWhat; 92 CottonWeeksModel.newsAt; 93 CottonWeeksModel.newsTown; 94 CottonWeeksModel.trace
def shO : Nat → Option (Nat × Nat) := fun t => match t with
  | 0 => some (10, 11)
  | 2 => some (7, 4)
  | 4 => some (1, 14)
  | 14 => some (4, 8)
  | 17 => some (6, 7)
  | 23 => some (8, 8)
  | 26 => some (3, 8)
  | 28 => some (2, 5)
  | 35 => some (9, 5)
  | 38 => some (0, 8)
  | 43 => some (5, 4)
  | 60 => some (11, 57)
  | _ => none
def shA : Nat → Option Nat := fun t => match t with
  | 3 => some 80
  | 5 => some 4
  | 6 => some 4
  | 7 => some 4
  | 8 => some 4
  | 9 => some 30
  | 10 => some 30
  | 11 => some 30
  | 12 => some 30
  | 15 => some 4
  | 16 => some 100
  | 18 => some 30
  | 19 => some 30
  | 20 => some 30
  | 21 => some 4
  | 22 => some 4
  | 24 => some 400
  | 27 => some 4
  | 29 => some 8
  | 31 => some 8
  | 32 => some 8
  | 33 => some 8
  | 34 => some 8
  | 36 => some 10
  | 37 => some 10
  | 39 => some 16
  | 40 => some 16
  | 41 => some 16
  | 42 => some 16
  | 44 => some 20
  | 45 => some 20
  | 46 => some 20
  | 61 => some 8
  | 62 => some 8
  | 63 => some 640
  | 64 => some 4
  | 65 => some 4
  | 66 => some 4
  | 67 => some 30
  | 68 => some 30
  | 69 => some 30
  | 70 => some 6
  | 71 => some 6
  | 72 => some 6
  | 73 => some 6
  | 74 => some 24
  | 75 => some 6
  | 76 => some 600
  | 77 => some 4
  | 78 => some 30
  | 79 => some 30
  | 80 => some 30
  | 81 => some 30
  | 82 => some 400
  | 83 => some 4
  | 84 => some 132
  | 85 => some 8
  | 86 => some 8
  | 87 => some 8
  | 88 => some 16
  | 89 => some 16
  | 90 => some 16
  | 91 => some 20
  | 92 => some 20
  | 93 => some 20
  | 94 => some 16
  | _ => none
def shR : Nat → Option (Nat × Nat × Nat) := fun t => match t with
  | 1 => some (8, 2, 1)
  | 13 => some (6, 14, 2)
  | 25 => some (12, 26, 3)
  | 30 => some (8, 31, 4)
  | _ => none
def shF : Nat → Nat → Option (Nat × Bool) := fun t => match t with
  | 0 => fun j => match j with
    | 0 => some (1, false)
    | 1 => some (4, false)
    | 2 => some (17, false)
    | 3 => some (23, false)
    | 4 => some (25, false)
    | 5 => some (28, false)
    | 6 => some (35, false)
    | 7 => some (38, false)
    | 8 => some (43, false)
    | _ => none
  | 2 => fun j => match j with
    | 0 => some (3, true)
    | _ => none
  | 4 => fun j => match j with
    | 0 => some (5, false)
    | 1 => some (6, false)
    | 2 => some (7, false)
    | 3 => some (8, false)
    | 6 => some (9, false)
    | 7 => some (10, false)
    | 8 => some (11, false)
    | 9 => some (12, false)
    | 11 => some (13, false)
    | _ => none
  | 14 => fun j => match j with
    | 4 => some (15, true)
    | 5 => some (16, true)
    | _ => none
  | 17 => fun j => match j with
    | 0 => some (18, false)
    | 1 => some (19, false)
    | 2 => some (20, false)
    | 3 => some (21, false)
    | 4 => some (22, false)
    | _ => none
  | 23 => fun j => match j with
    | 0 => some (24, false)
    | _ => none
  | 26 => fun j => match j with
    | 4 => some (27, true)
    | _ => none
  | 28 => fun j => match j with
    | 0 => some (29, false)
    | 1 => some (30, false)
    | 2 => some (32, false)
    | 3 => some (33, false)
    | 4 => some (34, false)
    | _ => none
  | 35 => fun j => match j with
    | 0 => some (36, false)
    | 1 => some (37, false)
    | _ => none
  | 38 => fun j => match j with
    | 0 => some (39, false)
    | 1 => some (40, false)
    | 2 => some (41, false)
    | 3 => some (42, false)
    | _ => none
  | 43 => fun j => match j with
    | 0 => some (44, false)
    | 1 => some (45, false)
    | 2 => some (46, false)
    | _ => none
  | 60 => fun j => match j with
    | 2 => some (61, false)
    | 3 => some (62, false)
    | 4 => some (63, false)
    | 5 => some (64, false)
    | 6 => some (65, false)
    | 7 => some (66, false)
    | 12 => some (67, false)
    | 13 => some (68, false)
    | 14 => some (69, false)
    | 16 => some (70, false)
    | 17 => some (71, false)
    | 18 => some (72, false)
    | 19 => some (73, false)
    | 20 => some (74, false)
    | 21 => some (75, false)
    | 22 => some (76, false)
    | 23 => some (77, false)
    | 25 => some (78, false)
    | 26 => some (79, false)
    | 27 => some (80, false)
    | 28 => some (81, false)
    | 30 => some (82, false)
    | 41 => some (83, false)
    | 43 => some (84, false)
    | 44 => some (85, false)
    | 45 => some (86, false)
    | 46 => some (87, false)
    | 48 => some (88, false)
    | 49 => some (89, false)
    | 50 => some (90, false)
    | 52 => some (91, false)
    | 53 => some (92, false)
    | 54 => some (93, false)
    | 55 => some (94, false)
    | _ => none
  | _ => fun _ => none
def shN (g : Nat × Nat) : Nat → Nat := fun t => match t with
  | 2 => 8
  | 3 => 8
  | 14 => g.1
  | 15 => g.1
  | 16 => g.1
  | 26 => g.2
  | 27 => g.2
  | 31 => 8
  | _ => 1
