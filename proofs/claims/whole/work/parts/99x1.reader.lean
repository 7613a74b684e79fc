theorem wi_161 : Cond.methodLink "KnockBank$Reader" 3 Lib.objectInit ∈ zgw := zgw_1 39 rfl rfl
theorem wi_162 : Cond.classLink "KnockBank$Reader" 9 "KnockBank$Scanner" ∈ zgw := zgw_1 40 rfl rfl
theorem wi_163 : Cond.instantiable "KnockBank$Scanner" 12 ∈ zgw := zgw_1 41 rfl rfl
theorem wi_164 : Cond.methodLink "KnockBank$Reader" 11 ⟨"KnockBank$Scanner", "<init>", "()V"⟩ ∈ zgw := zgw_1 42 rfl rfl
theorem wi_165 : Cond.instanceMethod ⟨"KnockBank$Scanner", "<init>", "()V"⟩ ∈ zgw := zgw_1 43 rfl rfl
theorem wi_166 : Cond.code ⟨"KnockBank$Scanner", "<init>", "()V"⟩ prog_9_method_1_code 5 none ∈ zgw := zgw_1 44 rfl rfl
theorem wi_263 : Cond.fieldLink "KnockBank$Reader" 12 "KnockBank$Reader" "scanner" "LKnockBank$Scanner;" ∈ zgw := zgw_1 141 rfl rfl
theorem wi_264 : Cond.fieldLink "KnockBank$Reader" 20 "KnockBank$Reader" "signs" "[I" ∈ zgw := zgw_1 142 rfl rfl
theorem wi_265 : Cond.fieldLink "KnockBank$Reader" 24 "KnockBank$Reader" "isCompared" "[Z" ∈ zgw := zgw_1 143 rfl rfl
theorem wi_271 : Cond.fieldLink "KnockBank$Reader" 28 "KnockBank$Reader" "fault" "I" ∈ zgw := zgw_1 149 rfl rfl
theorem wi_273 : Cond.fieldLink "KnockBank$Reader" 32 "KnockBank$Reader" "place" "I" ∈ zgw := zgw_1 151 rfl rfl
abbrev YX5_init : zY := (RX5, cX5_init, 1, none, { frames := 5, cells := 7, slots := 2215, locals := 134 })
abbrev e0X5 : va_E := .inr (5, [.null, .null, .null, .null, .null, .int 0, .int 0, .int 0, .int 0, .int 0])
theorem dftX5 : ∀ j, j < 10 → defaultValue (tyX5 j) = vp_V [.null, .null, .null, .null, .null, .int 0, .int 0, .int 0, .int 0, .int 0] j := by decide +kernel
theorem mdX5_init : zMd yX5_init 0 := ⟨by decide +kernel, by decide +kernel, by decide +kernel⟩
abbrev LX5 (G : zG) (a : Nat) : List va_E := (.inr (5, [.ref (a + 1), .ref (a + 6), .ref (a + 7), .null, .null, .int 0, .int 0, .int 0, .int 0, .int (-1)]) :: ((([] ++ LX7 G (a + 1)) ++ [.inl (G.2.2.2.1 0, 72, .inl (fun _ => 0))]) ++ [.inl (G.2.2.2.1 2, 9, .inl (fun _ => 0))]))
set_option maxHeartbeats 4000000 in
set_option maxRecDepth 100000 in
theorem icX5 {G : zG} : iMet G yX5_init YX5_init e0X5 (LX5 G) := by
  refine iMet_of (by decide) rfl rfl rfl (by decide) (fun X a arr h hS hl => ?_)
  obtain ⟨hx, hb, hml, hown, hts, hr, hlk, -⟩ := id h
  refine i_obj (pc := 0) h hl rfl wi_161 wobj1 wobj2 (by decide) (by decide) (by decide +kernel) (by decide +kernel) ?_
  refine lv_aload_n (pc := 4) hx hb (show decode cX5_init 4 = .ok (.aload_n 0, 1) by decide +kernel) rfl (lv_at hl 0 rfl) ?_
  refine i_new (pc := 5) (rest := [.ref a]) (C := RX7) (ci := 7) (ik := 9) (ic := 11) h icX7 clX7 rfl rfl mdX7_init rfl ⟨by decide, by decide⟩ (dftX7) ⟨wi_162, wi_163, wi_125, wi_165, wi_166⟩ (Or.inl wi_164) (by decide) (by decide) (Nat.le_of_ble_eq_true rfl) hl rfl (by decide +kernel) (by decide +kernel) (by decide +kernel) rfl hS (fun H1 locs1 hS => ?_)
  have hS : bS G X a (.inr (5, [.null, .null, .null, .null, .null, .int 0, .int 0, .int 0, .int 0, .int 0]) :: ([] ++ LX7 G (a + 1))) _ _ := hS
  refine i_put (pc := 12) (k := 0) (idx := 12) h clX5 (by decide) (Nat.le_of_ble_eq_true rfl) rfl wi_263 rfl rfl (by decide +kernel) hS (fun H1 locs1 hS => ?_)
  have hS : bS G X a (.inr (5, [.ref (a + 1), .null, .null, .null, .null, .int 0, .int 0, .int 0, .int 0, .int 0]) :: ([] ++ LX7 G (a + 1))) _ _ := hS
  refine i_arr (pc := 15) (t := 0) (at9 := .int) (n := 72) (N' := 72) (w := 2) (k := 1) (idx := 20) (c0 := .inl (fun _ => 0)) h (by decide) rfl (fun _ _ h => h) wi_262 (fun _ => rfl) (by decide) (by decide) (by decide) (by decide) (by decide) clX5 (by decide) (Nat.le_of_ble_eq_true rfl) rfl wi_264 (fun _ => rfl) (fun _ => rfl) hl (by decide +kernel) (Or.inr (Or.inl ⟨72, by decide +kernel, rfl, by decide⟩)) (by decide +kernel) (by decide +kernel) rfl hS (fun H1 locs1 hS => ?_)
  have hS : bS G X a (.inr (5, [.ref (a + 1), .ref (a + 6), .null, .null, .null, .int 0, .int 0, .int 0, .int 0, .int 0]) :: (([] ++ LX7 G (a + 1)) ++ [.inl (G.2.2.2.1 0, 72, .inl (fun _ => 0))])) _ _ := hS
  refine i_arr (pc := 23) (t := 2) (at9 := .boolean) (n := 9) (N' := 9) (w := 2) (k := 2) (idx := 24) (c0 := .inl (fun _ => 0)) h (by decide) rfl (fun _ _ h => h) wi_296 (fun _ => rfl) (by decide) (by decide) (by decide) (by decide) (by decide) clX5 (by decide) (Nat.le_of_ble_eq_true rfl) rfl wi_265 (fun _ => rfl) (fun _ => rfl) hl (by decide +kernel) (Or.inr (Or.inl ⟨9, by decide +kernel, rfl, by decide⟩)) (by decide +kernel) (by decide +kernel) rfl hS (fun H1 locs1 hS => ?_)
  have hS : bS G X a (.inr (5, [.ref (a + 1), .ref (a + 6), .ref (a + 7), .null, .null, .int 0, .int 0, .int 0, .int 0, .int 0]) :: ((([] ++ LX7 G (a + 1)) ++ [.inl (G.2.2.2.1 0, 72, .inl (fun _ => 0))]) ++ [.inl (G.2.2.2.1 2, 9, .inl (fun _ => 0))])) _ _ := hS
  refine i_int (pc := 31) (n := 0) (i := 0) (k := 8) (idx := 28) h clX5 (by decide) (Nat.le_of_ble_eq_true rfl) rfl wi_271 rfl rfl hl (by decide +kernel) (by decide +kernel) (by decide) (by decide +kernel) hS (fun H1 locs1 hS => ?_)
  have hS : bS G X a (.inr (5, [.ref (a + 1), .ref (a + 6), .ref (a + 7), .null, .null, .int 0, .int 0, .int 0, .int 0, .int 0]) :: ((([] ++ LX7 G (a + 1)) ++ [.inl (G.2.2.2.1 0, 72, .inl (fun _ => 0))]) ++ [.inl (G.2.2.2.1 2, 9, .inl (fun _ => 0))])) _ _ := hS
  refine i_int (pc := 36) (n := (-1)) (i := -1) (k := 9) (idx := 32) h clX5 (by decide) (Nat.le_of_ble_eq_true rfl) rfl wi_273 rfl rfl hl (by decide +kernel) (by decide +kernel) (by decide) (by decide +kernel) hS (fun H1 locs1 hS => ?_)
  have hS : bS G X a (.inr (5, [.ref (a + 1), .ref (a + 6), .ref (a + 7), .null, .null, .int 0, .int 0, .int 0, .int 0, .int (-1)]) :: ((([] ++ LX7 G (a + 1)) ++ [.inl (G.2.2.2.1 0, 72, .inl (fun _ => 0))]) ++ [.inl (G.2.2.2.1 2, 9, .inl (fun _ => 0))])) _ _ := hS
  exact W.vret hx hb hr (fun t ht _ => ⟨⟨(), rfl, trivial, by show va_P _ _ _ t.heap; rw [ht]; exact hS.1⟩, hS.2.F ht⟩) hS.2.2.2 (show decode cX5_init 41 = .ok (.return_, 1) by decide +kernel) hlk
