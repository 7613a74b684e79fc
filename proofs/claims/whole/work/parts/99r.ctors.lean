theorem wobj1 : Cond.instanceMethod Lib.objectInit ∈ zgw := by decide +kernel
theorem wobj2 : Cond.code Lib.objectInit ⟨#[0xb1]⟩ 1 none ∈ zgw := by decide +kernel
theorem wi_262 : Cond.arrayClass FieldType.int ∈ zgw := zgw_1 140 rfl rfl
theorem wi_296 : Cond.arrayClass FieldType.boolean ∈ zgw := zgw_1 174 rfl rfl
theorem wi_302 : Cond.methodLink "KnockBank$Scene" 3 Lib.objectInit ∈ zgw := zgw_1 180 rfl rfl
theorem wi_304 : Cond.fieldLink "KnockBank$Scene" 9 "KnockBank$Scene" "cold" "[I" ∈ zgw := zgw_1 182 rfl rfl
theorem wi_306 : Cond.fieldLink "KnockBank$Scene" 15 "KnockBank$Scene" "aged" "[I" ∈ zgw := zgw_1 184 rfl rfl
theorem wi_308 : Cond.fieldLink "KnockBank$Scene" 18 "KnockBank$Scene" "rapped" "[I" ∈ zgw := zgw_1 186 rfl rfl
theorem wi_310 : Cond.fieldLink "KnockBank$Scene" 21 "KnockBank$Scene" "hard" "[I" ∈ zgw := zgw_1 188 rfl rfl
theorem wi_312 : Cond.fieldLink "KnockBank$Scene" 24 "KnockBank$Scene" "owner" "[I" ∈ zgw := zgw_1 190 rfl rfl
theorem wi_314 : Cond.fieldLink "KnockBank$Scene" 27 "KnockBank$Scene" "wood" "[I" ∈ zgw := zgw_1 192 rfl rfl
theorem wi_316 : Cond.fieldLink "KnockBank$Scene" 30 "KnockBank$Scene" "when" "[I" ∈ zgw := zgw_1 194 rfl rfl
theorem wi_318 : Cond.fieldLink "KnockBank$Scene" 33 "KnockBank$Scene" "status" "[I" ∈ zgw := zgw_1 196 rfl rfl
theorem wi_320 : Cond.fieldLink "KnockBank$Scene" 36 "KnockBank$Scene" "bound" "[I" ∈ zgw := zgw_1 198 rfl rfl
theorem wi_322 : Cond.fieldLink "KnockBank$Scene" 39 "KnockBank$Scene" "heard" "[I" ∈ zgw := zgw_1 200 rfl rfl
theorem wi_324 : Cond.fieldLink "KnockBank$Scene" 42 "KnockBank$Scene" "ear" "[I" ∈ zgw := zgw_1 202 rfl rfl
theorem wi_326 : Cond.fieldLink "KnockBank$Scene" 45 "KnockBank$Scene" "names" "[J" ∈ zgw := zgw_1 204 rfl rfl
theorem wi_374 : Cond.arrayClass FieldType.long ∈ zgw := zgw_2 12 rfl rfl
theorem wi_380 : Cond.methodLink "KnockBank$Deeds" 1 Lib.objectInit ∈ zgw := zgw_2 18 rfl rfl
theorem wi_381 : Cond.fieldLink "KnockBank$Deeds" 9 "KnockBank$Deeds" "rows" "[I" ∈ zgw := zgw_2 19 rfl rfl
theorem wi_382 : Cond.fieldLink "KnockBank$Deeds" 13 "KnockBank$Deeds" "size" "I" ∈ zgw := zgw_2 20 rfl rfl
theorem wi_410 : Cond.methodLink "KnockBank$Overheard" 3 Lib.objectInit ∈ zgw := zgw_2 48 rfl rfl
theorem wi_411 : Cond.fieldLink "KnockBank$Overheard" 11 "KnockBank$Overheard" "rap" "[I" ∈ zgw := zgw_2 49 rfl rfl
theorem wi_413 : Cond.fieldLink "KnockBank$Overheard" 15 "KnockBank$Overheard" "place" "[I" ∈ zgw := zgw_2 51 rfl rfl
theorem wi_415 : Cond.fieldLink "KnockBank$Overheard" 18 "KnockBank$Overheard" "isLonger" "[Z" ∈ zgw := zgw_2 53 rfl rfl
theorem wi_417 : Cond.fieldLink "KnockBank$Overheard" 22 "KnockBank$Overheard" "target" "[I" ∈ zgw := zgw_2 55 rfl rfl
theorem wi_418 : Cond.fieldLink "KnockBank$Overheard" 25 "KnockBank$Overheard" "isStruck" "[Z" ∈ zgw := zgw_2 56 rfl rfl
theorem wi_419 : Cond.fieldLink "KnockBank$Overheard" 28 "KnockBank$Overheard" "size" "I" ∈ zgw := zgw_2 57 rfl rfl
theorem wi_421 : Cond.fieldLink "KnockBank$Overheard" 32 "KnockBank$Overheard" "limit" "I" ∈ zgw := zgw_2 59 rfl rfl
theorem wi_443 : Cond.methodLink "KnockBank$Row" 3 Lib.objectInit ∈ zgw := zgw_2 81 rfl rfl
theorem wi_444 : Cond.fieldLink "KnockBank$Row" 9 "KnockBank$Row" "hands" "[I" ∈ zgw := zgw_2 82 rfl rfl
theorem wi_446 : Cond.fieldLink "KnockBank$Row" 15 "KnockBank$Row" "fewest" "[I" ∈ zgw := zgw_2 84 rfl rfl
theorem wi_481 : Cond.methodLink "KnockBank$Hand" 3 Lib.objectInit ∈ zgw := zgw_2 119 rfl rfl
theorem wi_482 : Cond.fieldLink "KnockBank$Hand" 9 "KnockBank$Hand" "beats" "[I" ∈ zgw := zgw_2 120 rfl rfl
theorem wi_486 : Cond.fieldLink "KnockBank$Hand" 15 "KnockBank$Hand" "gaps" "[I" ∈ zgw := zgw_2 124 rfl rfl
theorem wi_508 : Cond.methodLink "KnockBank$Wood" 1 Lib.objectInit ∈ zgw := zgw_2 146 rfl rfl
theorem wi_531 : Cond.methodLink "KnockBank$Rap" 1 Lib.objectInit ∈ zgw := zgw_2 169 rfl rfl
theorem wi_554 : Cond.methodLink "KnockBank$Law" 3 Lib.objectInit ∈ zgw := zgw_2 192 rfl rfl
theorem wi_555 : Cond.fieldLink "KnockBank$Law" 11 "KnockBank$Law" "codes" "[I" ∈ zgw := zgw_2 193 rfl rfl
theorem wi_557 : Cond.fieldLink "KnockBank$Law" 17 "KnockBank$Law" "stack" "[J" ∈ zgw := zgw_2 195 rfl rfl
theorem wi_558 : Cond.fieldLink "KnockBank$Law" 21 "KnockBank$Law" "length" "I" ∈ zgw := zgw_2 196 rfl rfl
abbrev YX0_init : zY := (RX0, cX0_init, 1, none, { frames := 1, cells := 1, slots := 80, locals := 12 })
abbrev e0X0 : va_E := .inr (0, [.null, .int 0, .int 0, .int 0, .int 0, .int 0])
theorem dftX0 : ∀ j, j < 6 → defaultValue (tyX0 j) = vp_V [.null, .int 0, .int 0, .int 0, .int 0, .int 0] j := by decide +kernel
theorem mdX0_init : zMd yX0_init 0 := ⟨by decide +kernel, by decide +kernel, by decide +kernel⟩
abbrev LX0 (G : zG) (a : Nat) : List va_E := (.inr (0, [.ref (a + 1), .int 0, .int 0, .int 0, .int 0, .int 0]) :: [.inl (G.2.2.2.1 0, 80, .inl (fun _ => 0))])
set_option maxHeartbeats 4000000 in
set_option maxRecDepth 100000 in
theorem icX0 {G : zG} : iMet G yX0_init YX0_init e0X0 (LX0 G) := by
  refine iMet_of (by decide) rfl rfl rfl (by decide) (fun X a arr h hS hl => ?_)
  obtain ⟨hx, hb, hml, hown, hts, hr, hlk, -⟩ := id h
  refine i_obj (pc := 0) h hl rfl wi_380 wobj1 wobj2 (by decide) (by decide) (by decide +kernel) (by decide +kernel) ?_
  refine i_arr (pc := 4) (t := 0) (at9 := .int) (n := 80) (N' := 80) (w := 2) (k := 0) (idx := 9) (c0 := .inl (fun _ => 0)) h (by decide) rfl (fun _ _ h => h) wi_262 (fun _ => rfl) (by decide) (by decide) (by decide) (by decide) (by decide) clX0 (by decide) (Nat.le_of_ble_eq_true rfl) rfl wi_381 (fun _ => rfl) (fun _ => rfl) hl (by decide +kernel) (Or.inr (Or.inl ⟨80, by decide +kernel, rfl, by decide⟩)) (by decide +kernel) (by decide +kernel) rfl hS (fun H1 locs1 hS => ?_)
  have hS : bS G X a (.inr (0, [.ref (a + 1), .int 0, .int 0, .int 0, .int 0, .int 0]) :: [.inl (G.2.2.2.1 0, 80, .inl (fun _ => 0))]) _ _ := hS
  refine i_int (pc := 12) (n := 0) (i := 0) (k := 1) (idx := 13) h clX0 (by decide) (Nat.le_of_ble_eq_true rfl) rfl wi_382 rfl rfl hl (by decide +kernel) (by decide +kernel) (by decide) (by decide +kernel) hS (fun H1 locs1 hS => ?_)
  have hS : bS G X a (.inr (0, [.ref (a + 1), .int 0, .int 0, .int 0, .int 0, .int 0]) :: [.inl (G.2.2.2.1 0, 80, .inl (fun _ => 0))]) _ _ := hS
  exact W.vret hx hb hr (fun t ht _ => ⟨⟨(), rfl, trivial, by show va_P _ _ _ t.heap; rw [ht]; exact hS.1⟩, hS.2.F ht⟩) hS.2.2.2 (show decode cX0_init 17 = .ok (.return_, 1) by decide +kernel) hlk
abbrev YX1_init : zY := (RX1, cX1_init, 1, none, { frames := 1, cells := 2, slots := 134, locals := 12 })
abbrev e0X1 : va_E := .inr (1, [.null, .null, .int 0, .int 0, .int 0])
theorem dftX1 : ∀ j, j < 5 → defaultValue (tyX1 j) = vp_V [.null, .null, .int 0, .int 0, .int 0] j := by decide +kernel
theorem mdX1_init : zMd yX1_init 0 := ⟨by decide +kernel, by decide +kernel, by decide +kernel⟩
abbrev LX1 (G : zG) (a : Nat) : List va_E := (.inr (1, [.ref (a + 1), .ref (a + 2), .int 0, .int 0, .int 0]) :: [.inl (G.2.2.2.1 0, 6, .inl (fun _ => 0)), .inl (G.2.2.2.1 0, 128, .inl (fun _ => 0))])
set_option maxHeartbeats 4000000 in
set_option maxRecDepth 100000 in
theorem icX1 {G : zG} : iMet G yX1_init YX1_init e0X1 (LX1 G) := by
  refine iMet_of (by decide) rfl rfl rfl (by decide) (fun X a arr h hS hl => ?_)
  obtain ⟨hx, hb, hml, hown, hts, hr, hlk, -⟩ := id h
  refine i_obj (pc := 0) h hl rfl wi_481 wobj1 wobj2 (by decide) (by decide) (by decide +kernel) (by decide +kernel) ?_
  refine i_arr (pc := 4) (t := 0) (at9 := .int) (n := 6) (N' := 6) (w := 2) (k := 0) (idx := 9) (c0 := .inl (fun _ => 0)) h (by decide) rfl (fun _ _ h => h) wi_262 (fun _ => rfl) (by decide) (by decide) (by decide) (by decide) (by decide) clX1 (by decide) (Nat.le_of_ble_eq_true rfl) rfl wi_482 (fun _ => rfl) (fun _ => rfl) hl (by decide +kernel) (Or.inr (Or.inl ⟨6, by decide +kernel, rfl, by decide⟩)) (by decide +kernel) (by decide +kernel) rfl hS (fun H1 locs1 hS => ?_)
  have hS : bS G X a (.inr (1, [.ref (a + 1), .null, .int 0, .int 0, .int 0]) :: [.inl (G.2.2.2.1 0, 6, .inl (fun _ => 0))]) _ _ := hS
  refine i_arr (pc := 12) (t := 0) (at9 := .int) (n := 128) (N' := 128) (w := 3) (k := 1) (idx := 15) (c0 := .inl (fun _ => 0)) h (by decide) rfl (fun _ _ h => h) wi_262 (fun _ => rfl) (by decide) (by decide) (by decide) (by decide) (by decide) clX1 (by decide) (Nat.le_of_ble_eq_true rfl) rfl wi_486 (fun _ => rfl) (fun _ => rfl) hl (by decide +kernel) (Or.inr (Or.inr ⟨128, by decide +kernel, rfl, by decide⟩)) (by decide +kernel) (by decide +kernel) rfl hS (fun H1 locs1 hS => ?_)
  have hS : bS G X a (.inr (1, [.ref (a + 1), .ref (a + 2), .int 0, .int 0, .int 0]) :: [.inl (G.2.2.2.1 0, 6, .inl (fun _ => 0)), .inl (G.2.2.2.1 0, 128, .inl (fun _ => 0))]) _ _ := hS
  exact W.vret hx hb hr (fun t ht _ => ⟨⟨(), rfl, trivial, by show va_P _ _ _ t.heap; rw [ht]; exact hS.1⟩, hS.2.F ht⟩) hS.2.2.2 (show decode cX1_init 21 = .ok (.return_, 1) by decide +kernel) hlk
abbrev YX2_init : zY := (RX2, cX2_init, 1, none, { frames := 1, cells := 2, slots := 128, locals := 12 })
abbrev e0X2 : va_E := .inr (2, [.null, .null, .int 0])
theorem dftX2 : ∀ j, j < 3 → defaultValue (tyX2 j) = vp_V [.null, .null, .int 0] j := by decide +kernel
theorem mdX2_init : zMd yX2_init 0 := ⟨by decide +kernel, by decide +kernel, by decide +kernel⟩
abbrev LX2 (G : zG) (a : Nat) : List va_E := (.inr (2, [.ref (a + 1), .ref (a + 2), .int 0]) :: [.inl (G.2.2.2.1 0, 64, .inl (fun _ => 0)), .inl (G.2.2.2.1 3, 64, .inr (.inl (fun _ => 0)))])
set_option maxHeartbeats 4000000 in
set_option maxRecDepth 100000 in
theorem icX2 {G : zG} : iMet G yX2_init YX2_init e0X2 (LX2 G) := by
  refine iMet_of (by decide) rfl rfl rfl (by decide) (fun X a arr h hS hl => ?_)
  obtain ⟨hx, hb, hml, hown, hts, hr, hlk, -⟩ := id h
  refine i_obj (pc := 0) h hl rfl wi_554 wobj1 wobj2 (by decide) (by decide) (by decide +kernel) (by decide +kernel) ?_
  refine i_arr (pc := 4) (t := 0) (at9 := .int) (n := 64) (N' := 64) (w := 2) (k := 0) (idx := 11) (c0 := .inl (fun _ => 0)) h (by decide) rfl (fun _ _ h => h) wi_262 (fun _ => rfl) (by decide) (by decide) (by decide) (by decide) (by decide) clX2 (by decide) (Nat.le_of_ble_eq_true rfl) rfl wi_555 (fun _ => rfl) (fun _ => rfl) hl (by decide +kernel) (Or.inr (Or.inl ⟨64, by decide +kernel, rfl, by decide⟩)) (by decide +kernel) (by decide +kernel) rfl hS (fun H1 locs1 hS => ?_)
  have hS : bS G X a (.inr (2, [.ref (a + 1), .null, .int 0]) :: [.inl (G.2.2.2.1 0, 64, .inl (fun _ => 0))]) _ _ := hS
  refine i_arr (pc := 12) (t := 3) (at9 := .long) (n := 64) (N' := 64) (w := 2) (k := 1) (idx := 17) (c0 := .inr (.inl (fun _ => 0))) h (by decide) rfl (fun _ _ h => h) wi_374 (fun _ => rfl) (by decide) (by decide) (by decide) (by decide) (by decide) clX2 (by decide) (Nat.le_of_ble_eq_true rfl) rfl wi_557 (fun _ => rfl) (fun _ => rfl) hl (by decide +kernel) (Or.inr (Or.inl ⟨64, by decide +kernel, rfl, by decide⟩)) (by decide +kernel) (by decide +kernel) rfl hS (fun H1 locs1 hS => ?_)
  have hS : bS G X a (.inr (2, [.ref (a + 1), .ref (a + 2), .int 0]) :: [.inl (G.2.2.2.1 0, 64, .inl (fun _ => 0)), .inl (G.2.2.2.1 3, 64, .inr (.inl (fun _ => 0)))]) _ _ := hS
  refine i_int (pc := 20) (n := 0) (i := 0) (k := 2) (idx := 21) h clX2 (by decide) (Nat.le_of_ble_eq_true rfl) rfl wi_558 rfl rfl hl (by decide +kernel) (by decide +kernel) (by decide) (by decide +kernel) hS (fun H1 locs1 hS => ?_)
  have hS : bS G X a (.inr (2, [.ref (a + 1), .ref (a + 2), .int 0]) :: [.inl (G.2.2.2.1 0, 64, .inl (fun _ => 0)), .inl (G.2.2.2.1 3, 64, .inr (.inl (fun _ => 0)))]) _ _ := hS
  exact W.vret hx hb hr (fun t ht _ => ⟨⟨(), rfl, trivial, by show va_P _ _ _ t.heap; rw [ht]; exact hS.1⟩, hS.2.F ht⟩) hS.2.2.2 (show decode cX2_init 25 = .ok (.return_, 1) by decide +kernel) hlk
abbrev YX3_init : zY := (RX3, cX3_init, 1, none, { frames := 1, cells := 5, slots := 120, locals := 12 })
abbrev e0X3 : va_E := .inr (3, [.null, .null, .null, .null, .null, .int 0, .int 0])
theorem dftX3 : ∀ j, j < 7 → defaultValue (tyX3 j) = vp_V [.null, .null, .null, .null, .null, .int 0, .int 0] j := by decide +kernel
theorem mdX3_init : zMd yX3_init 0 := ⟨by decide +kernel, by decide +kernel, by decide +kernel⟩
abbrev LX3 (G : zG) (a : Nat) : List va_E := (.inr (3, [.ref (a + 1), .ref (a + 2), .ref (a + 3), .ref (a + 4), .ref (a + 5), .int 0, .int (-1)]) :: [.inl (G.2.2.2.1 0, 24, .inl (fun _ => 0)), .inl (G.2.2.2.1 0, 24, .inl (fun _ => 0)), .inl (G.2.2.2.1 2, 24, .inl (fun _ => 0)), .inl (G.2.2.2.1 0, 24, .inl (fun _ => 0)), .inl (G.2.2.2.1 2, 24, .inl (fun _ => 0))])
set_option maxHeartbeats 4000000 in
set_option maxRecDepth 100000 in
theorem icX3 {G : zG} : iMet G yX3_init YX3_init e0X3 (LX3 G) := by
  refine iMet_of (by decide) rfl rfl rfl (by decide) (fun X a arr h hS hl => ?_)
  obtain ⟨hx, hb, hml, hown, hts, hr, hlk, -⟩ := id h
  refine i_obj (pc := 0) h hl rfl wi_410 wobj1 wobj2 (by decide) (by decide) (by decide +kernel) (by decide +kernel) ?_
  refine i_arr (pc := 4) (t := 0) (at9 := .int) (n := 24) (N' := 24) (w := 2) (k := 0) (idx := 11) (c0 := .inl (fun _ => 0)) h (by decide) rfl (fun _ _ h => h) wi_262 (fun _ => rfl) (by decide) (by decide) (by decide) (by decide) (by decide) clX3 (by decide) (Nat.le_of_ble_eq_true rfl) rfl wi_411 (fun _ => rfl) (fun _ => rfl) hl (by decide +kernel) (Or.inr (Or.inl ⟨24, by decide +kernel, rfl, by decide⟩)) (by decide +kernel) (by decide +kernel) rfl hS (fun H1 locs1 hS => ?_)
  have hS : bS G X a (.inr (3, [.ref (a + 1), .null, .null, .null, .null, .int 0, .int 0]) :: [.inl (G.2.2.2.1 0, 24, .inl (fun _ => 0))]) _ _ := hS
  refine i_arr (pc := 12) (t := 0) (at9 := .int) (n := 24) (N' := 24) (w := 2) (k := 1) (idx := 15) (c0 := .inl (fun _ => 0)) h (by decide) rfl (fun _ _ h => h) wi_262 (fun _ => rfl) (by decide) (by decide) (by decide) (by decide) (by decide) clX3 (by decide) (Nat.le_of_ble_eq_true rfl) rfl wi_413 (fun _ => rfl) (fun _ => rfl) hl (by decide +kernel) (Or.inr (Or.inl ⟨24, by decide +kernel, rfl, by decide⟩)) (by decide +kernel) (by decide +kernel) rfl hS (fun H1 locs1 hS => ?_)
  have hS : bS G X a (.inr (3, [.ref (a + 1), .ref (a + 2), .null, .null, .null, .int 0, .int 0]) :: [.inl (G.2.2.2.1 0, 24, .inl (fun _ => 0)), .inl (G.2.2.2.1 0, 24, .inl (fun _ => 0))]) _ _ := hS
  refine i_arr (pc := 20) (t := 2) (at9 := .boolean) (n := 24) (N' := 24) (w := 2) (k := 2) (idx := 18) (c0 := .inl (fun _ => 0)) h (by decide) rfl (fun _ _ h => h) wi_296 (fun _ => rfl) (by decide) (by decide) (by decide) (by decide) (by decide) clX3 (by decide) (Nat.le_of_ble_eq_true rfl) rfl wi_415 (fun _ => rfl) (fun _ => rfl) hl (by decide +kernel) (Or.inr (Or.inl ⟨24, by decide +kernel, rfl, by decide⟩)) (by decide +kernel) (by decide +kernel) rfl hS (fun H1 locs1 hS => ?_)
  have hS : bS G X a (.inr (3, [.ref (a + 1), .ref (a + 2), .ref (a + 3), .null, .null, .int 0, .int 0]) :: [.inl (G.2.2.2.1 0, 24, .inl (fun _ => 0)), .inl (G.2.2.2.1 0, 24, .inl (fun _ => 0)), .inl (G.2.2.2.1 2, 24, .inl (fun _ => 0))]) _ _ := hS
  refine i_arr (pc := 28) (t := 0) (at9 := .int) (n := 24) (N' := 24) (w := 2) (k := 3) (idx := 22) (c0 := .inl (fun _ => 0)) h (by decide) rfl (fun _ _ h => h) wi_262 (fun _ => rfl) (by decide) (by decide) (by decide) (by decide) (by decide) clX3 (by decide) (Nat.le_of_ble_eq_true rfl) rfl wi_417 (fun _ => rfl) (fun _ => rfl) hl (by decide +kernel) (Or.inr (Or.inl ⟨24, by decide +kernel, rfl, by decide⟩)) (by decide +kernel) (by decide +kernel) rfl hS (fun H1 locs1 hS => ?_)
  have hS : bS G X a (.inr (3, [.ref (a + 1), .ref (a + 2), .ref (a + 3), .ref (a + 4), .null, .int 0, .int 0]) :: [.inl (G.2.2.2.1 0, 24, .inl (fun _ => 0)), .inl (G.2.2.2.1 0, 24, .inl (fun _ => 0)), .inl (G.2.2.2.1 2, 24, .inl (fun _ => 0)), .inl (G.2.2.2.1 0, 24, .inl (fun _ => 0))]) _ _ := hS
  refine i_arr (pc := 36) (t := 2) (at9 := .boolean) (n := 24) (N' := 24) (w := 2) (k := 4) (idx := 25) (c0 := .inl (fun _ => 0)) h (by decide) rfl (fun _ _ h => h) wi_296 (fun _ => rfl) (by decide) (by decide) (by decide) (by decide) (by decide) clX3 (by decide) (Nat.le_of_ble_eq_true rfl) rfl wi_418 (fun _ => rfl) (fun _ => rfl) hl (by decide +kernel) (Or.inr (Or.inl ⟨24, by decide +kernel, rfl, by decide⟩)) (by decide +kernel) (by decide +kernel) rfl hS (fun H1 locs1 hS => ?_)
  have hS : bS G X a (.inr (3, [.ref (a + 1), .ref (a + 2), .ref (a + 3), .ref (a + 4), .ref (a + 5), .int 0, .int 0]) :: [.inl (G.2.2.2.1 0, 24, .inl (fun _ => 0)), .inl (G.2.2.2.1 0, 24, .inl (fun _ => 0)), .inl (G.2.2.2.1 2, 24, .inl (fun _ => 0)), .inl (G.2.2.2.1 0, 24, .inl (fun _ => 0)), .inl (G.2.2.2.1 2, 24, .inl (fun _ => 0))]) _ _ := hS
  refine i_int (pc := 44) (n := 0) (i := 0) (k := 5) (idx := 28) h clX3 (by decide) (Nat.le_of_ble_eq_true rfl) rfl wi_419 rfl rfl hl (by decide +kernel) (by decide +kernel) (by decide) (by decide +kernel) hS (fun H1 locs1 hS => ?_)
  have hS : bS G X a (.inr (3, [.ref (a + 1), .ref (a + 2), .ref (a + 3), .ref (a + 4), .ref (a + 5), .int 0, .int 0]) :: [.inl (G.2.2.2.1 0, 24, .inl (fun _ => 0)), .inl (G.2.2.2.1 0, 24, .inl (fun _ => 0)), .inl (G.2.2.2.1 2, 24, .inl (fun _ => 0)), .inl (G.2.2.2.1 0, 24, .inl (fun _ => 0)), .inl (G.2.2.2.1 2, 24, .inl (fun _ => 0))]) _ _ := hS
  refine i_int (pc := 49) (n := (-1)) (i := -1) (k := 6) (idx := 32) h clX3 (by decide) (Nat.le_of_ble_eq_true rfl) rfl wi_421 rfl rfl hl (by decide +kernel) (by decide +kernel) (by decide) (by decide +kernel) hS (fun H1 locs1 hS => ?_)
  have hS : bS G X a (.inr (3, [.ref (a + 1), .ref (a + 2), .ref (a + 3), .ref (a + 4), .ref (a + 5), .int 0, .int (-1)]) :: [.inl (G.2.2.2.1 0, 24, .inl (fun _ => 0)), .inl (G.2.2.2.1 0, 24, .inl (fun _ => 0)), .inl (G.2.2.2.1 2, 24, .inl (fun _ => 0)), .inl (G.2.2.2.1 0, 24, .inl (fun _ => 0)), .inl (G.2.2.2.1 2, 24, .inl (fun _ => 0))]) _ _ := hS
  exact W.vret hx hb hr (fun t ht _ => ⟨⟨(), rfl, trivial, by show va_P _ _ _ t.heap; rw [ht]; exact hS.1⟩, hS.2.F ht⟩) hS.2.2.2 (show decode cX3_init 54 = .ok (.return_, 1) by decide +kernel) hlk
abbrev YX4_init : zY := (RX4, cX4_init, 1, none, { frames := 1, cells := 0, slots := 0, locals := 12 })
abbrev e0X4 : va_E := .inr (4, [.int 0, .int 0, .int 0])
theorem dftX4 : ∀ j, j < 3 → defaultValue (tyX4 j) = vp_V [.int 0, .int 0, .int 0] j := by decide +kernel
theorem mdX4_init : zMd yX4_init 0 := ⟨by decide +kernel, by decide +kernel, by decide +kernel⟩
abbrev LX4 (G : zG) (a : Nat) : List va_E := (.inr (4, [.int 0, .int 0, .int 0]) :: [])
set_option maxHeartbeats 4000000 in
set_option maxRecDepth 100000 in
theorem icX4 {G : zG} : iMet G yX4_init YX4_init e0X4 (LX4 G) := by
  refine iMet_of (by decide) rfl rfl rfl (by decide) (fun X a arr h hS hl => ?_)
  obtain ⟨hx, hb, hml, hown, hts, hr, hlk, -⟩ := id h
  refine i_obj (pc := 0) h hl rfl wi_531 wobj1 wobj2 (by decide) (by decide) (by decide +kernel) (by decide +kernel) ?_
  exact W.vret hx hb hr (fun t ht _ => ⟨⟨(), rfl, trivial, by show va_P _ _ _ t.heap; rw [ht]; exact hS.1⟩, hS.2.F ht⟩) hS.2.2.2 (show decode cX4_init 4 = .ok (.return_, 1) by decide +kernel) hlk
abbrev YX6_init : zY := (RX6, cX6_init, 1, none, { frames := 1, cells := 2, slots := 390, locals := 12 })
abbrev e0X6 : va_E := .inr (6, [.null, .null, .null, .int 0, .int 0])
theorem dftX6 : ∀ j, j < 5 → defaultValue (tyX6 j) = vp_V [.null, .null, .null, .int 0, .int 0] j := by decide +kernel
theorem mdX6_init : zMd yX6_init 0 := ⟨by decide +kernel, by decide +kernel, by decide +kernel⟩
abbrev LX6 (G : zG) (a : Nat) : List va_E := (.inr (6, [.ref (a + 1), .ref (a + 2), .null, .int 0, .int 0]) :: [.inl (G.2.2.2.1 0, 6, .inl (fun _ => 0)), .inl (G.2.2.2.1 0, 384, .inl (fun _ => 0))])
set_option maxHeartbeats 4000000 in
set_option maxRecDepth 100000 in
theorem icX6 {G : zG} : iMet G yX6_init YX6_init e0X6 (LX6 G) := by
  refine iMet_of (by decide) rfl rfl rfl (by decide) (fun X a arr h hS hl => ?_)
  obtain ⟨hx, hb, hml, hown, hts, hr, hlk, -⟩ := id h
  refine i_obj (pc := 0) h hl rfl wi_443 wobj1 wobj2 (by decide) (by decide) (by decide +kernel) (by decide +kernel) ?_
  refine i_arr (pc := 4) (t := 0) (at9 := .int) (n := 6) (N' := 6) (w := 2) (k := 0) (idx := 9) (c0 := .inl (fun _ => 0)) h (by decide) rfl (fun _ _ h => h) wi_262 (fun _ => rfl) (by decide) (by decide) (by decide) (by decide) (by decide) clX6 (by decide) (Nat.le_of_ble_eq_true rfl) rfl wi_444 (fun _ => rfl) (fun _ => rfl) hl (by decide +kernel) (Or.inr (Or.inl ⟨6, by decide +kernel, rfl, by decide⟩)) (by decide +kernel) (by decide +kernel) rfl hS (fun H1 locs1 hS => ?_)
  have hS : bS G X a (.inr (6, [.ref (a + 1), .null, .null, .int 0, .int 0]) :: [.inl (G.2.2.2.1 0, 6, .inl (fun _ => 0))]) _ _ := hS
  refine i_arr (pc := 12) (t := 0) (at9 := .int) (n := 384) (N' := 384) (w := 3) (k := 1) (idx := 15) (c0 := .inl (fun _ => 0)) h (by decide) rfl (fun _ _ h => h) wi_262 (fun _ => rfl) (by decide) (by decide) (by decide) (by decide) (by decide) clX6 (by decide) (Nat.le_of_ble_eq_true rfl) rfl wi_446 (fun _ => rfl) (fun _ => rfl) hl (by decide +kernel) (Or.inr (Or.inr ⟨384, by decide +kernel, rfl, by decide⟩)) (by decide +kernel) (by decide +kernel) rfl hS (fun H1 locs1 hS => ?_)
  have hS : bS G X a (.inr (6, [.ref (a + 1), .ref (a + 2), .null, .int 0, .int 0]) :: [.inl (G.2.2.2.1 0, 6, .inl (fun _ => 0)), .inl (G.2.2.2.1 0, 384, .inl (fun _ => 0))]) _ _ := hS
  exact W.vret hx hb hr (fun t ht _ => ⟨⟨(), rfl, trivial, by show va_P _ _ _ t.heap; rw [ht]; exact hS.1⟩, hS.2.F ht⟩) hS.2.2.2 (show decode cX6_init 21 = .ok (.return_, 1) by decide +kernel) hlk
abbrev YX8_init : zY := (RX8, cX8_init, 1, none, { frames := 1, cells := 12, slots := 89, locals := 12 })
abbrev e0X8 : va_E := .inr (8, [.null, .null, .null, .null, .null, .null, .null, .null, .null, .null, .null, .null, .null, .int 0, .int 0, .int 0, .int 0, .int 0])
theorem dftX8 : ∀ j, j < 18 → defaultValue (tyX8 j) = vp_V [.null, .null, .null, .null, .null, .null, .null, .null, .null, .null, .null, .null, .null, .int 0, .int 0, .int 0, .int 0, .int 0] j := by decide +kernel
theorem mdX8_init : zMd yX8_init 0 := ⟨by decide +kernel, by decide +kernel, by decide +kernel⟩
abbrev LX8 (G : zG) (a : Nat) : List va_E := (.inr (8, [.null, .ref (a + 1), .ref (a + 2), .ref (a + 3), .ref (a + 4), .ref (a + 5), .ref (a + 6), .ref (a + 7), .ref (a + 8), .ref (a + 9), .ref (a + 10), .ref (a + 11), .ref (a + 12), .int 0, .int 0, .int 0, .int 0, .int 0]) :: [.inl (G.2.2.2.1 0, 6, .inl (fun _ => 0)), .inl (G.2.2.2.1 0, 6, .inl (fun _ => 0)), .inl (G.2.2.2.1 0, 6, .inl (fun _ => 0)), .inl (G.2.2.2.1 0, 4, .inl (fun _ => 0)), .inl (G.2.2.2.1 0, 4, .inl (fun _ => 0)), .inl (G.2.2.2.1 0, 10, .inl (fun _ => 0)), .inl (G.2.2.2.1 0, 10, .inl (fun _ => 0)), .inl (G.2.2.2.1 0, 10, .inl (fun _ => 0)), .inl (G.2.2.2.1 0, 10, .inl (fun _ => 0)), .inl (G.2.2.2.1 0, 10, .inl (fun _ => 0)), .inl (G.2.2.2.1 0, 6, .inl (fun _ => 0)), .inl (G.2.2.2.1 3, 7, .inr (.inl (fun _ => 0)))])
set_option maxHeartbeats 4000000 in
set_option maxRecDepth 100000 in
theorem icX8 {G : zG} : iMet G yX8_init YX8_init e0X8 (LX8 G) := by
  refine iMet_of (by decide) rfl rfl rfl (by decide) (fun X a arr h hS hl => ?_)
  obtain ⟨hx, hb, hml, hown, hts, hr, hlk, -⟩ := id h
  refine i_obj (pc := 0) h hl rfl wi_302 wobj1 wobj2 (by decide) (by decide) (by decide +kernel) (by decide +kernel) ?_
  refine i_arr (pc := 4) (t := 0) (at9 := .int) (n := 6) (N' := 6) (w := 2) (k := 1) (idx := 9) (c0 := .inl (fun _ => 0)) h (by decide) rfl (fun _ _ h => h) wi_262 (fun _ => rfl) (by decide) (by decide) (by decide) (by decide) (by decide) clX8 (by decide) (Nat.le_of_ble_eq_true rfl) rfl wi_304 (fun _ => rfl) (fun _ => rfl) hl (by decide +kernel) (Or.inr (Or.inl ⟨6, by decide +kernel, rfl, by decide⟩)) (by decide +kernel) (by decide +kernel) rfl hS (fun H1 locs1 hS => ?_)
  have hS : bS G X a (.inr (8, [.null, .ref (a + 1), .null, .null, .null, .null, .null, .null, .null, .null, .null, .null, .null, .int 0, .int 0, .int 0, .int 0, .int 0]) :: [.inl (G.2.2.2.1 0, 6, .inl (fun _ => 0))]) _ _ := hS
  refine i_arr (pc := 12) (t := 0) (at9 := .int) (n := 6) (N' := 6) (w := 2) (k := 2) (idx := 15) (c0 := .inl (fun _ => 0)) h (by decide) rfl (fun _ _ h => h) wi_262 (fun _ => rfl) (by decide) (by decide) (by decide) (by decide) (by decide) clX8 (by decide) (Nat.le_of_ble_eq_true rfl) rfl wi_306 (fun _ => rfl) (fun _ => rfl) hl (by decide +kernel) (Or.inr (Or.inl ⟨6, by decide +kernel, rfl, by decide⟩)) (by decide +kernel) (by decide +kernel) rfl hS (fun H1 locs1 hS => ?_)
  have hS : bS G X a (.inr (8, [.null, .ref (a + 1), .ref (a + 2), .null, .null, .null, .null, .null, .null, .null, .null, .null, .null, .int 0, .int 0, .int 0, .int 0, .int 0]) :: [.inl (G.2.2.2.1 0, 6, .inl (fun _ => 0)), .inl (G.2.2.2.1 0, 6, .inl (fun _ => 0))]) _ _ := hS
  refine i_arr (pc := 20) (t := 0) (at9 := .int) (n := 6) (N' := 6) (w := 2) (k := 3) (idx := 18) (c0 := .inl (fun _ => 0)) h (by decide) rfl (fun _ _ h => h) wi_262 (fun _ => rfl) (by decide) (by decide) (by decide) (by decide) (by decide) clX8 (by decide) (Nat.le_of_ble_eq_true rfl) rfl wi_308 (fun _ => rfl) (fun _ => rfl) hl (by decide +kernel) (Or.inr (Or.inl ⟨6, by decide +kernel, rfl, by decide⟩)) (by decide +kernel) (by decide +kernel) rfl hS (fun H1 locs1 hS => ?_)
  have hS : bS G X a (.inr (8, [.null, .ref (a + 1), .ref (a + 2), .ref (a + 3), .null, .null, .null, .null, .null, .null, .null, .null, .null, .int 0, .int 0, .int 0, .int 0, .int 0]) :: [.inl (G.2.2.2.1 0, 6, .inl (fun _ => 0)), .inl (G.2.2.2.1 0, 6, .inl (fun _ => 0)), .inl (G.2.2.2.1 0, 6, .inl (fun _ => 0))]) _ _ := hS
  refine i_arr (pc := 28) (t := 0) (at9 := .int) (n := 4) (N' := 4) (w := 1) (k := 4) (idx := 21) (c0 := .inl (fun _ => 0)) h (by decide) rfl (fun _ _ h => h) wi_262 (fun _ => rfl) (by decide) (by decide) (by decide) (by decide) (by decide) clX8 (by decide) (Nat.le_of_ble_eq_true rfl) rfl wi_310 (fun _ => rfl) (fun _ => rfl) hl (by decide +kernel) (Or.inl ⟨4, by decide +kernel, rfl, by decide⟩) (by decide +kernel) (by decide +kernel) rfl hS (fun H1 locs1 hS => ?_)
  have hS : bS G X a (.inr (8, [.null, .ref (a + 1), .ref (a + 2), .ref (a + 3), .ref (a + 4), .null, .null, .null, .null, .null, .null, .null, .null, .int 0, .int 0, .int 0, .int 0, .int 0]) :: [.inl (G.2.2.2.1 0, 6, .inl (fun _ => 0)), .inl (G.2.2.2.1 0, 6, .inl (fun _ => 0)), .inl (G.2.2.2.1 0, 6, .inl (fun _ => 0)), .inl (G.2.2.2.1 0, 4, .inl (fun _ => 0))]) _ _ := hS
  refine i_arr (pc := 35) (t := 0) (at9 := .int) (n := 4) (N' := 4) (w := 1) (k := 5) (idx := 24) (c0 := .inl (fun _ => 0)) h (by decide) rfl (fun _ _ h => h) wi_262 (fun _ => rfl) (by decide) (by decide) (by decide) (by decide) (by decide) clX8 (by decide) (Nat.le_of_ble_eq_true rfl) rfl wi_312 (fun _ => rfl) (fun _ => rfl) hl (by decide +kernel) (Or.inl ⟨4, by decide +kernel, rfl, by decide⟩) (by decide +kernel) (by decide +kernel) rfl hS (fun H1 locs1 hS => ?_)
  have hS : bS G X a (.inr (8, [.null, .ref (a + 1), .ref (a + 2), .ref (a + 3), .ref (a + 4), .ref (a + 5), .null, .null, .null, .null, .null, .null, .null, .int 0, .int 0, .int 0, .int 0, .int 0]) :: [.inl (G.2.2.2.1 0, 6, .inl (fun _ => 0)), .inl (G.2.2.2.1 0, 6, .inl (fun _ => 0)), .inl (G.2.2.2.1 0, 6, .inl (fun _ => 0)), .inl (G.2.2.2.1 0, 4, .inl (fun _ => 0)), .inl (G.2.2.2.1 0, 4, .inl (fun _ => 0))]) _ _ := hS
  refine i_arr (pc := 42) (t := 0) (at9 := .int) (n := 10) (N' := 10) (w := 2) (k := 6) (idx := 27) (c0 := .inl (fun _ => 0)) h (by decide) rfl (fun _ _ h => h) wi_262 (fun _ => rfl) (by decide) (by decide) (by decide) (by decide) (by decide) clX8 (by decide) (Nat.le_of_ble_eq_true rfl) rfl wi_314 (fun _ => rfl) (fun _ => rfl) hl (by decide +kernel) (Or.inr (Or.inl ⟨10, by decide +kernel, rfl, by decide⟩)) (by decide +kernel) (by decide +kernel) rfl hS (fun H1 locs1 hS => ?_)
  have hS : bS G X a (.inr (8, [.null, .ref (a + 1), .ref (a + 2), .ref (a + 3), .ref (a + 4), .ref (a + 5), .ref (a + 6), .null, .null, .null, .null, .null, .null, .int 0, .int 0, .int 0, .int 0, .int 0]) :: [.inl (G.2.2.2.1 0, 6, .inl (fun _ => 0)), .inl (G.2.2.2.1 0, 6, .inl (fun _ => 0)), .inl (G.2.2.2.1 0, 6, .inl (fun _ => 0)), .inl (G.2.2.2.1 0, 4, .inl (fun _ => 0)), .inl (G.2.2.2.1 0, 4, .inl (fun _ => 0)), .inl (G.2.2.2.1 0, 10, .inl (fun _ => 0))]) _ _ := hS
  refine i_arr (pc := 50) (t := 0) (at9 := .int) (n := 10) (N' := 10) (w := 2) (k := 7) (idx := 30) (c0 := .inl (fun _ => 0)) h (by decide) rfl (fun _ _ h => h) wi_262 (fun _ => rfl) (by decide) (by decide) (by decide) (by decide) (by decide) clX8 (by decide) (Nat.le_of_ble_eq_true rfl) rfl wi_316 (fun _ => rfl) (fun _ => rfl) hl (by decide +kernel) (Or.inr (Or.inl ⟨10, by decide +kernel, rfl, by decide⟩)) (by decide +kernel) (by decide +kernel) rfl hS (fun H1 locs1 hS => ?_)
  have hS : bS G X a (.inr (8, [.null, .ref (a + 1), .ref (a + 2), .ref (a + 3), .ref (a + 4), .ref (a + 5), .ref (a + 6), .ref (a + 7), .null, .null, .null, .null, .null, .int 0, .int 0, .int 0, .int 0, .int 0]) :: [.inl (G.2.2.2.1 0, 6, .inl (fun _ => 0)), .inl (G.2.2.2.1 0, 6, .inl (fun _ => 0)), .inl (G.2.2.2.1 0, 6, .inl (fun _ => 0)), .inl (G.2.2.2.1 0, 4, .inl (fun _ => 0)), .inl (G.2.2.2.1 0, 4, .inl (fun _ => 0)), .inl (G.2.2.2.1 0, 10, .inl (fun _ => 0)), .inl (G.2.2.2.1 0, 10, .inl (fun _ => 0))]) _ _ := hS
  refine i_arr (pc := 58) (t := 0) (at9 := .int) (n := 10) (N' := 10) (w := 2) (k := 8) (idx := 33) (c0 := .inl (fun _ => 0)) h (by decide) rfl (fun _ _ h => h) wi_262 (fun _ => rfl) (by decide) (by decide) (by decide) (by decide) (by decide) clX8 (by decide) (Nat.le_of_ble_eq_true rfl) rfl wi_318 (fun _ => rfl) (fun _ => rfl) hl (by decide +kernel) (Or.inr (Or.inl ⟨10, by decide +kernel, rfl, by decide⟩)) (by decide +kernel) (by decide +kernel) rfl hS (fun H1 locs1 hS => ?_)
  have hS : bS G X a (.inr (8, [.null, .ref (a + 1), .ref (a + 2), .ref (a + 3), .ref (a + 4), .ref (a + 5), .ref (a + 6), .ref (a + 7), .ref (a + 8), .null, .null, .null, .null, .int 0, .int 0, .int 0, .int 0, .int 0]) :: [.inl (G.2.2.2.1 0, 6, .inl (fun _ => 0)), .inl (G.2.2.2.1 0, 6, .inl (fun _ => 0)), .inl (G.2.2.2.1 0, 6, .inl (fun _ => 0)), .inl (G.2.2.2.1 0, 4, .inl (fun _ => 0)), .inl (G.2.2.2.1 0, 4, .inl (fun _ => 0)), .inl (G.2.2.2.1 0, 10, .inl (fun _ => 0)), .inl (G.2.2.2.1 0, 10, .inl (fun _ => 0)), .inl (G.2.2.2.1 0, 10, .inl (fun _ => 0))]) _ _ := hS
  refine i_arr (pc := 66) (t := 0) (at9 := .int) (n := 10) (N' := 10) (w := 2) (k := 9) (idx := 36) (c0 := .inl (fun _ => 0)) h (by decide) rfl (fun _ _ h => h) wi_262 (fun _ => rfl) (by decide) (by decide) (by decide) (by decide) (by decide) clX8 (by decide) (Nat.le_of_ble_eq_true rfl) rfl wi_320 (fun _ => rfl) (fun _ => rfl) hl (by decide +kernel) (Or.inr (Or.inl ⟨10, by decide +kernel, rfl, by decide⟩)) (by decide +kernel) (by decide +kernel) rfl hS (fun H1 locs1 hS => ?_)
  have hS : bS G X a (.inr (8, [.null, .ref (a + 1), .ref (a + 2), .ref (a + 3), .ref (a + 4), .ref (a + 5), .ref (a + 6), .ref (a + 7), .ref (a + 8), .ref (a + 9), .null, .null, .null, .int 0, .int 0, .int 0, .int 0, .int 0]) :: [.inl (G.2.2.2.1 0, 6, .inl (fun _ => 0)), .inl (G.2.2.2.1 0, 6, .inl (fun _ => 0)), .inl (G.2.2.2.1 0, 6, .inl (fun _ => 0)), .inl (G.2.2.2.1 0, 4, .inl (fun _ => 0)), .inl (G.2.2.2.1 0, 4, .inl (fun _ => 0)), .inl (G.2.2.2.1 0, 10, .inl (fun _ => 0)), .inl (G.2.2.2.1 0, 10, .inl (fun _ => 0)), .inl (G.2.2.2.1 0, 10, .inl (fun _ => 0)), .inl (G.2.2.2.1 0, 10, .inl (fun _ => 0))]) _ _ := hS
  refine i_arr (pc := 74) (t := 0) (at9 := .int) (n := 10) (N' := 10) (w := 2) (k := 10) (idx := 39) (c0 := .inl (fun _ => 0)) h (by decide) rfl (fun _ _ h => h) wi_262 (fun _ => rfl) (by decide) (by decide) (by decide) (by decide) (by decide) clX8 (by decide) (Nat.le_of_ble_eq_true rfl) rfl wi_322 (fun _ => rfl) (fun _ => rfl) hl (by decide +kernel) (Or.inr (Or.inl ⟨10, by decide +kernel, rfl, by decide⟩)) (by decide +kernel) (by decide +kernel) rfl hS (fun H1 locs1 hS => ?_)
  have hS : bS G X a (.inr (8, [.null, .ref (a + 1), .ref (a + 2), .ref (a + 3), .ref (a + 4), .ref (a + 5), .ref (a + 6), .ref (a + 7), .ref (a + 8), .ref (a + 9), .ref (a + 10), .null, .null, .int 0, .int 0, .int 0, .int 0, .int 0]) :: [.inl (G.2.2.2.1 0, 6, .inl (fun _ => 0)), .inl (G.2.2.2.1 0, 6, .inl (fun _ => 0)), .inl (G.2.2.2.1 0, 6, .inl (fun _ => 0)), .inl (G.2.2.2.1 0, 4, .inl (fun _ => 0)), .inl (G.2.2.2.1 0, 4, .inl (fun _ => 0)), .inl (G.2.2.2.1 0, 10, .inl (fun _ => 0)), .inl (G.2.2.2.1 0, 10, .inl (fun _ => 0)), .inl (G.2.2.2.1 0, 10, .inl (fun _ => 0)), .inl (G.2.2.2.1 0, 10, .inl (fun _ => 0)), .inl (G.2.2.2.1 0, 10, .inl (fun _ => 0))]) _ _ := hS
  refine i_arr (pc := 82) (t := 0) (at9 := .int) (n := 6) (N' := 6) (w := 2) (k := 11) (idx := 42) (c0 := .inl (fun _ => 0)) h (by decide) rfl (fun _ _ h => h) wi_262 (fun _ => rfl) (by decide) (by decide) (by decide) (by decide) (by decide) clX8 (by decide) (Nat.le_of_ble_eq_true rfl) rfl wi_324 (fun _ => rfl) (fun _ => rfl) hl (by decide +kernel) (Or.inr (Or.inl ⟨6, by decide +kernel, rfl, by decide⟩)) (by decide +kernel) (by decide +kernel) rfl hS (fun H1 locs1 hS => ?_)
  have hS : bS G X a (.inr (8, [.null, .ref (a + 1), .ref (a + 2), .ref (a + 3), .ref (a + 4), .ref (a + 5), .ref (a + 6), .ref (a + 7), .ref (a + 8), .ref (a + 9), .ref (a + 10), .ref (a + 11), .null, .int 0, .int 0, .int 0, .int 0, .int 0]) :: [.inl (G.2.2.2.1 0, 6, .inl (fun _ => 0)), .inl (G.2.2.2.1 0, 6, .inl (fun _ => 0)), .inl (G.2.2.2.1 0, 6, .inl (fun _ => 0)), .inl (G.2.2.2.1 0, 4, .inl (fun _ => 0)), .inl (G.2.2.2.1 0, 4, .inl (fun _ => 0)), .inl (G.2.2.2.1 0, 10, .inl (fun _ => 0)), .inl (G.2.2.2.1 0, 10, .inl (fun _ => 0)), .inl (G.2.2.2.1 0, 10, .inl (fun _ => 0)), .inl (G.2.2.2.1 0, 10, .inl (fun _ => 0)), .inl (G.2.2.2.1 0, 10, .inl (fun _ => 0)), .inl (G.2.2.2.1 0, 6, .inl (fun _ => 0))]) _ _ := hS
  refine i_arr (pc := 90) (t := 3) (at9 := .long) (n := 7) (N' := 7) (w := 2) (k := 12) (idx := 45) (c0 := .inr (.inl (fun _ => 0))) h (by decide) rfl (fun _ _ h => h) wi_374 (fun _ => rfl) (by decide) (by decide) (by decide) (by decide) (by decide) clX8 (by decide) (Nat.le_of_ble_eq_true rfl) rfl wi_326 (fun _ => rfl) (fun _ => rfl) hl (by decide +kernel) (Or.inr (Or.inl ⟨7, by decide +kernel, rfl, by decide⟩)) (by decide +kernel) (by decide +kernel) rfl hS (fun H1 locs1 hS => ?_)
  have hS : bS G X a (.inr (8, [.null, .ref (a + 1), .ref (a + 2), .ref (a + 3), .ref (a + 4), .ref (a + 5), .ref (a + 6), .ref (a + 7), .ref (a + 8), .ref (a + 9), .ref (a + 10), .ref (a + 11), .ref (a + 12), .int 0, .int 0, .int 0, .int 0, .int 0]) :: [.inl (G.2.2.2.1 0, 6, .inl (fun _ => 0)), .inl (G.2.2.2.1 0, 6, .inl (fun _ => 0)), .inl (G.2.2.2.1 0, 6, .inl (fun _ => 0)), .inl (G.2.2.2.1 0, 4, .inl (fun _ => 0)), .inl (G.2.2.2.1 0, 4, .inl (fun _ => 0)), .inl (G.2.2.2.1 0, 10, .inl (fun _ => 0)), .inl (G.2.2.2.1 0, 10, .inl (fun _ => 0)), .inl (G.2.2.2.1 0, 10, .inl (fun _ => 0)), .inl (G.2.2.2.1 0, 10, .inl (fun _ => 0)), .inl (G.2.2.2.1 0, 10, .inl (fun _ => 0)), .inl (G.2.2.2.1 0, 6, .inl (fun _ => 0)), .inl (G.2.2.2.1 3, 7, .inr (.inl (fun _ => 0)))]) _ _ := hS
  exact W.vret hx hb hr (fun t ht _ => ⟨⟨(), rfl, trivial, by show va_P _ _ _ t.heap; rw [ht]; exact hS.1⟩, hS.2.F ht⟩) hS.2.2.2 (show decode cX8_init 98 = .ok (.return_, 1) by decide +kernel) hlk
abbrev YX10_init : zY := (RX10, cX10_init, 1, none, { frames := 1, cells := 0, slots := 0, locals := 12 })
abbrev e0X10 : va_E := .inr (10, [.int 0, .int 0, .int 0, .int 0])
theorem dftX10 : ∀ j, j < 4 → defaultValue (tyX10 j) = vp_V [.int 0, .int 0, .int 0, .int 0] j := by decide +kernel
theorem mdX10_init : zMd yX10_init 0 := ⟨by decide +kernel, by decide +kernel, by decide +kernel⟩
abbrev LX10 (G : zG) (a : Nat) : List va_E := (.inr (10, [.int 0, .int 0, .int 0, .int 0]) :: [])
set_option maxHeartbeats 4000000 in
set_option maxRecDepth 100000 in
theorem icX10 {G : zG} : iMet G yX10_init YX10_init e0X10 (LX10 G) := by
  refine iMet_of (by decide) rfl rfl rfl (by decide) (fun X a arr h hS hl => ?_)
  obtain ⟨hx, hb, hml, hown, hts, hr, hlk, -⟩ := id h
  refine i_obj (pc := 0) h hl rfl wi_508 wobj1 wobj2 (by decide) (by decide) (by decide +kernel) (by decide +kernel) ?_
  exact W.vret hx hb hr (fun t ht _ => ⟨⟨(), rfl, trivial, by show va_P _ _ _ t.heap; rw [ht]; exact hS.1⟩, hS.2.F ht⟩) hS.2.2.2 (show decode cX10_init 4 = .ok (.return_, 1) by decide +kernel) hlk
