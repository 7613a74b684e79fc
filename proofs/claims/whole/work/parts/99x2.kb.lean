theorem wi_124 : Cond.initialized "KnockBank$Reader" ∈ zgw := zgw_1 2 rfl rfl
theorem wi_130 : Cond.initialized "KnockBank$Scene" ∈ zgw := zgw_1 8 rfl rfl
theorem wi_131 : Cond.initialized "KnockBank$Deeds" ∈ zgw := zgw_1 9 rfl rfl
theorem wi_132 : Cond.initialized "KnockBank$Overheard" ∈ zgw := zgw_1 10 rfl rfl
theorem wi_133 : Cond.initialized "KnockBank$Row" ∈ zgw := zgw_1 11 rfl rfl
theorem wi_134 : Cond.initialized "KnockBank$Text" ∈ zgw := zgw_1 12 rfl rfl
theorem wi_153 : Cond.methodLink "KnockBank" 1 Lib.objectInit ∈ zgw := zgw_1 31 rfl rfl
theorem wi_156 : Cond.classLink "KnockBank" 13 "KnockBank$Reader" ∈ zgw := zgw_1 34 rfl rfl
theorem wi_157 : Cond.instantiable "KnockBank$Reader" 10 ∈ zgw := zgw_1 35 rfl rfl
theorem wi_159 : Cond.instanceMethod ⟨"KnockBank$Reader", "<init>", "()V"⟩ ∈ zgw := zgw_1 37 rfl rfl
theorem wi_160 : Cond.code ⟨"KnockBank$Reader", "<init>", "()V"⟩ prog_7_method_1_code 1 none ∈ zgw := zgw_1 38 rfl rfl
theorem wi_261 : Cond.arrayClass FieldType.byte ∈ zgw := zgw_1 139 rfl rfl
theorem wi_297 : Cond.classLink "KnockBank" 20 "KnockBank$Scene" ∈ zgw := zgw_1 175 rfl rfl
theorem wi_298 : Cond.instantiable "KnockBank$Scene" 18 ∈ zgw := zgw_1 176 rfl rfl
theorem wi_300 : Cond.instanceMethod ⟨"KnockBank$Scene", "<init>", "()V"⟩ ∈ zgw := zgw_1 178 rfl rfl
theorem wi_301 : Cond.code ⟨"KnockBank$Scene", "<init>", "()V"⟩ prog_10_method_1_code 1 none ∈ zgw := zgw_1 179 rfl rfl
theorem wi_375 : Cond.classLink "KnockBank" 33 "KnockBank$Deeds" ∈ zgw := zgw_2 13 rfl rfl
theorem wi_376 : Cond.instantiable "KnockBank$Deeds" 6 ∈ zgw := zgw_2 14 rfl rfl
theorem wi_378 : Cond.instanceMethod ⟨"KnockBank$Deeds", "<init>", "()V"⟩ ∈ zgw := zgw_2 16 rfl rfl
theorem wi_379 : Cond.code ⟨"KnockBank$Deeds", "<init>", "()V"⟩ prog_2_method_1_code 1 none ∈ zgw := zgw_2 17 rfl rfl
theorem wi_405 : Cond.classLink "KnockBank" 40 "KnockBank$Overheard" ∈ zgw := zgw_2 43 rfl rfl
theorem wi_406 : Cond.instantiable "KnockBank$Overheard" 7 ∈ zgw := zgw_2 44 rfl rfl
theorem wi_408 : Cond.instanceMethod ⟨"KnockBank$Overheard", "<init>", "()V"⟩ ∈ zgw := zgw_2 46 rfl rfl
theorem wi_409 : Cond.code ⟨"KnockBank$Overheard", "<init>", "()V"⟩ prog_5_method_1_code 1 none ∈ zgw := zgw_2 47 rfl rfl
theorem wi_438 : Cond.classLink "KnockBank" 47 "KnockBank$Row" ∈ zgw := zgw_2 76 rfl rfl
theorem wi_439 : Cond.instantiable "KnockBank$Row" 5 ∈ zgw := zgw_2 77 rfl rfl
theorem wi_441 : Cond.instanceMethod ⟨"KnockBank$Row", "<init>", "()V"⟩ ∈ zgw := zgw_2 79 rfl rfl
theorem wi_442 : Cond.code ⟨"KnockBank$Row", "<init>", "()V"⟩ prog_8_method_1_code 1 none ∈ zgw := zgw_2 80 rfl rfl
theorem wi_463 : Cond.classLink "KnockBank" 65 "KnockBank$Text" ∈ zgw := zgw_2 101 rfl rfl
theorem wi_464 : Cond.instantiable "KnockBank$Text" 15 ∈ zgw := zgw_2 102 rfl rfl
theorem wi_465 : Cond.methodLink "KnockBank" 67 ⟨"KnockBank$Text", "<init>", "()V"⟩ ∈ zgw := zgw_2 103 rfl rfl
theorem wi_466 : Cond.instanceMethod ⟨"KnockBank$Text", "<init>", "()V"⟩ ∈ zgw := zgw_2 104 rfl rfl
theorem wi_467 : Cond.code ⟨"KnockBank$Text", "<init>", "()V"⟩ prog_11_method_1_code 2 none ∈ zgw := zgw_2 105 rfl rfl
theorem wi_651 : Cond.fieldLink "KnockBank" 9 "KnockBank" "tape" "[B" ∈ zgw := zgw_3 49 rfl rfl
theorem wi_652 : Cond.fieldLink "KnockBank" 16 "KnockBank" "reader" "LKnockBank$Reader;" ∈ zgw := zgw_3 50 rfl rfl
theorem wi_653 : Cond.fieldLink "KnockBank" 23 "KnockBank" "now" "LKnockBank$Scene;" ∈ zgw := zgw_3 51 rfl rfl
theorem wi_654 : Cond.fieldLink "KnockBank" 27 "KnockBank" "image" "LKnockBank$Scene;" ∈ zgw := zgw_3 52 rfl rfl
theorem wi_655 : Cond.fieldLink "KnockBank" 30 "KnockBank" "trial" "LKnockBank$Scene;" ∈ zgw := zgw_3 53 rfl rfl
theorem wi_656 : Cond.fieldLink "KnockBank" 36 "KnockBank" "deeds" "LKnockBank$Deeds;" ∈ zgw := zgw_3 54 rfl rfl
theorem wi_657 : Cond.fieldLink "KnockBank" 43 "KnockBank" "overheard" "LKnockBank$Overheard;" ∈ zgw := zgw_3 55 rfl rfl
theorem wi_658 : Cond.fieldLink "KnockBank" 50 "KnockBank" "row" "LKnockBank$Row;" ∈ zgw := zgw_3 56 rfl rfl
theorem wi_659 : Cond.fieldLink "KnockBank" 54 "KnockBank" "knockAsked" "[I" ∈ zgw := zgw_3 57 rfl rfl
theorem wi_660 : Cond.fieldLink "KnockBank" 58 "KnockBank" "changes" "[I" ∈ zgw := zgw_3 58 rfl rfl
theorem wi_661 : Cond.fieldLink "KnockBank" 61 "KnockBank" "isWithin" "[Z" ∈ zgw := zgw_3 59 rfl rfl
theorem wi_662 : Cond.fieldLink "KnockBank" 68 "KnockBank" "told" "LKnockBank$Text;" ∈ zgw := zgw_3 60 rfl rfl
theorem wi_663 : Cond.fieldLink "KnockBank" 72 "KnockBank" "draft" "LKnockBank$Text;" ∈ zgw := zgw_3 61 rfl rfl
theorem wi_664 : Cond.fieldLink "KnockBank" 75 "KnockBank" "tapeLength" "I" ∈ zgw := zgw_3 62 rfl rfl
theorem wi_665 : Cond.fieldLink "KnockBank" 79 "KnockBank" "hasImage" "Z" ∈ zgw := zgw_3 63 rfl rfl
abbrev YX11_init : zY := (RX11, cX11_init, 1, none, { frames := 6, cells := 154, slots := 6641, locals := 154 })
abbrev e0X11 : va_E := .inr (11, [.null, .null, .null, .null, .null, .null, .null, .null, .null, .null, .null, .null, .null, .int 0, .int 0])
theorem dftX11 : ∀ j, j < 15 → defaultValue (tyX11 j) = vp_V [.null, .null, .null, .null, .null, .null, .null, .null, .null, .null, .null, .null, .null, .int 0, .int 0] j := by decide +kernel
theorem mdX11_init : zMd yX11_init 0 := ⟨by decide +kernel, by decide +kernel, by decide +kernel⟩
abbrev LX11 (G : zG) (a : Nat) : List va_E := (.inr (11, [.ref (a + 1), .ref (a + 2), .ref (a + 10), .ref (a + 23), .ref (a + 36), .ref (a + 49), .ref (a + 51), .ref (a + 57), .ref (a + 60), .ref (a + 61), .ref (a + 62), .ref (a + 63), .ref (a + 109), .int 0, .int 0]) :: (((((((((((([.inl (G.2.2.2.1 1, 700, .inl (fun _ => 0))] ++ LX5 G (a + 2)) ++ LX8 G (a + 10)) ++ LX8 G (a + 23)) ++ LX8 G (a + 36)) ++ LX0 G (a + 49)) ++ LX3 G (a + 51)) ++ LX6 G (a + 57)) ++ [.inl (G.2.2.2.1 0, 6, .inl (fun _ => 0))]) ++ [.inl (G.2.2.2.1 0, 128, .inl (fun _ => 0))]) ++ [.inl (G.2.2.2.1 2, 31, .inl (fun _ => 0))]) ++ LX9 G (a + 63)) ++ LX9 G (a + 109)))
def offG : Nat → Nat → Nat := fun k i => match k with
  | 0 => 49
  | 1 => 68 + 46 * (i / 6) + 3 * (i % 6)
  | 2 => 100 + 46 * (i / 3) + 3 * (i % 3)
  | 3 => 51
  | 4 => 90 + 46 * (i / 10) + i % 10
  | 5 => 2
  | 6 => 57
  | 7 => 3
  | 8 => 10 + 13 * i
  | 9 => 63 + 46 * i
  | 10 => 86 + 46 * (i / 4) + i % 4
  | 11 => 0
  | 12 => 155
  | 13 => 50
  | 14 => 69 + 46 * (i / 6) + 3 * (i % 6)
  | 15 => 70 + 46 * (i / 6) + 3 * (i % 6)
  | 16 => 101 + 46 * (i / 3) + 3 * (i % 3)
  | 17 => 102 + 46 * (i / 3) + 3 * (i % 3)
  | 18 => 52
  | 19 => 53
  | 20 => 54
  | 21 => 55
  | 22 => 56
  | 23 => 8
  | 24 => 9
  | 25 => 58
  | 26 => 59
  | 27 => 4
  | 28 => 5
  | 29 => 6
  | 30 => 7
  | 31 => 11 + 13 * i
  | 32 => 12 + 13 * i
  | 33 => 13 + 13 * i
  | 34 => 14 + 13 * i
  | 35 => 15 + 13 * i
  | 36 => 16 + 13 * i
  | 37 => 17 + 13 * i
  | 38 => 18 + 13 * i
  | 39 => 19 + 13 * i
  | 40 => 20 + 13 * i
  | 41 => 21 + 13 * i
  | 42 => 22 + 13 * i
  | 43 => 64 + 46 * i
  | 44 => 65 + 46 * i
  | 45 => 66 + 46 * i
  | 46 => 67 + 46 * i
  | 47 => 1
  | 48 => 60
  | 49 => 61
  | 50 => 62
  | k => 105 + k
noncomputable def invG : List (Nat × Nat) := [(11, 0), (47, 0), (5, 0), (7, 0), (27, 0), (28, 0), (29, 0), (30, 0), (23, 0), (24, 0), (8, 0), (31, 0), (32, 0), (33, 0), (34, 0), (35, 0), (36, 0), (37, 0), (38, 0), (39, 0), (40, 0), (41, 0), (42, 0), (8, 1), (31, 1), (32, 1), (33, 1), (34, 1), (35, 1), (36, 1), (37, 1), (38, 1), (39, 1), (40, 1), (41, 1), (42, 1), (8, 2), (31, 2), (32, 2), (33, 2), (34, 2), (35, 2), (36, 2), (37, 2), (38, 2), (39, 2), (40, 2), (41, 2), (42, 2), (0, 0), (13, 0), (3, 0), (18, 0), (19, 0), (20, 0), (21, 0), (22, 0), (6, 0), (25, 0), (26, 0), (48, 0), (49, 0), (50, 0), (9, 0), (43, 0), (44, 0), (45, 0), (46, 0), (1, 0), (14, 0), (15, 0), (1, 1), (14, 1), (15, 1), (1, 2), (14, 2), (15, 2), (1, 3), (14, 3), (15, 3), (1, 4), (14, 4), (15, 4), (1, 5), (14, 5), (15, 5), (10, 0), (10, 1), (10, 2), (10, 3), (4, 0), (4, 1), (4, 2), (4, 3), (4, 4), (4, 5), (4, 6), (4, 7), (4, 8), (4, 9), (2, 0), (16, 0), (17, 0), (2, 1), (16, 1), (17, 1), (2, 2), (16, 2), (17, 2), (9, 1), (43, 1), (44, 1), (45, 1), (46, 1), (1, 6), (14, 6), (15, 6), (1, 7), (14, 7), (15, 7), (1, 8), (14, 8), (15, 8), (1, 9), (14, 9), (15, 9), (1, 10), (14, 10), (15, 10), (1, 11), (14, 11), (15, 11), (10, 4), (10, 5), (10, 6), (10, 7), (4, 10), (4, 11), (4, 12), (4, 13), (4, 14), (4, 15), (4, 16), (4, 17), (4, 18), (4, 19), (2, 3), (16, 3), (17, 3), (2, 4), (16, 4), (17, 4), (2, 5), (16, 5), (17, 5), (12, 0), (51, 0), (52, 0), (53, 0), (54, 0), (55, 0), (56, 0), (57, 0), (58, 0), (59, 0), (60, 0), (61, 0), (62, 0), (63, 0), (64, 0), (65, 0), (66, 0), (67, 0), (68, 0), (69, 0), (70, 0), (71, 0), (72, 0), (73, 0), (74, 0), (75, 0), (76, 0), (77, 0), (78, 0), (79, 0), (80, 0), (81, 0), (82, 0), (83, 0), (84, 0), (85, 0), (86, 0), (87, 0), (88, 0), (89, 0), (90, 0), (91, 0), (92, 0), (93, 0), (94, 0)]
theorem offG_inv : ∀ k, k < 95 → ∀ i, i < zcnt k → invG.getD (offG k i) (99, 99) = (k, i) := by decide +kernel
abbrev adG (a : Nat) : Nat → Nat → Nat := fun k i => a + offG k i
theorem adG_inj {a k i k' i' : Nat} (h : i < zcnt k) (h' : i' < zcnt k') (e : adG a k i = adG a k' i') : k = k' ∧ i = i' := by
  have h1 : k < 95 := Classical.byContradiction (fun z => by rw [zcnt_out k z] at h; omega)
  have h2 : k' < 95 := Classical.byContradiction (fun z => by rw [zcnt_out k' z] at h'; omega)
  have e : offG k i = offG k' i' := by have e : a + offG k i = a + offG k' i' := e; omega
  have q := (offG_inv k h1 i h).symm.trans ((congrArg (fun x => invG.getD x (99, 99)) e).trans (offG_inv k' h2 i' h'))
  cases q
  exact ⟨rfl, rfl⟩
abbrev gA (G : zG) (a : Nat) : zG := (G.1, a, G.2.2.1, G.2.2.2.1, adG a)
def cI0 (k : Nat) : Nat → Nat → Int32 := match k with
  | 27 => fun _ s => wrdC.getD s 0
  | 9 => fun _ s => if s = 7 then 3 else if s = 13 then -1 else if s = 14 then -1 else 0
  | 3 => fun _ s => if s = 6 then -1 else 0
  | 5 => fun _ s => if s = 9 then -1 else 0
  | _ => fun _ _ => 0
def cP0 (k : Nat) : Nat → Nat → Nat := match k with
  | 11 => fun _ s => if s = 11 then 0 else if s = 12 then 1 else 99
  | _ => fun _ _ => 99
abbrev cM0 : zM := (cI0, fun _ _ _ => 0, cP0)
