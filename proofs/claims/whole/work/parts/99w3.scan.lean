abbrev e0X7 : va_E := .inr (7, [.null, .null, .null, .null, .null, .int 0, .int 0, .int 0, .int 0, .int 0, .int 0, .int 0])
theorem dftX7 : ∀ j, j < 12 → defaultValue (tyX7 j) = vp_V [.null, .null, .null, .null, .null, .int 0, .int 0, .int 0, .int 0, .int 0, .int 0, .int 0] j := by decide +kernel
theorem mdX7_init : zMd yX7_init 0 := ⟨by decide +kernel, by decide +kernel, by decide +kernel⟩
abbrev LX7 (G : zG) (a : Nat) : List va_E := (.inr (7, [.ref (a + 1), .ref (a + 2), .ref (a + 3), .ref (a + 4), .null, .int 0, .int 0, .int 0, .int 0, .int 0, .int 0, .int 0]) :: .inl (G.2.2.2.1 0, 19, .inl (fun j => wrdC.getD j 0)) :: [.inl (G.2.2.2.1 0, 701, .inl (fun _ => 0)), .inl (G.2.2.2.1 0, 701, .inl (fun _ => 0)), .inl (G.2.2.2.1 0, 701, .inl (fun _ => 0))])
theorem sc_fin : (scG 89).2.2 = wrdC := by decide +kernel
set_option maxHeartbeats 4000000 in
set_option maxRecDepth 100000 in
theorem icX7 {G : zG} : iMet G yX7_init YX7_init e0X7 (LX7 G) := by
  refine iMet_of (by decide) rfl rfl rfl (by decide) (fun X a arr h hS hl => ?_)
  obtain ⟨hx, hb, hml, hown, hts, hr, hlk, -⟩ := id h
  refine i_obj (pc := 0) h hl rfl wi_167 wobj1 wobj2 (by decide) (by decide) (by decide +kernel) (by decide +kernel) ?_
  refine i_arr (pc := 4) (t := 0) (at9 := .int) (n := 19) (N' := 19) (w := 2) (k := 0) (idx := 11) (c0 := .inl (fun _ => 0)) h (by decide) rfl (fun _ _ h => h) wi_262 (fun _ => rfl) (by decide) (by decide) (by decide) (by decide) (by decide) clX7 (by decide) (Nat.le_of_ble_eq_true rfl) rfl wi_220 (fun _ => rfl) (fun _ => rfl) hl (by decide +kernel) (Or.inr (Or.inl ⟨19, by decide +kernel, rfl, by decide⟩)) (by decide +kernel) (by decide +kernel) rfl hS (fun H1 locs1 hS => ?_)
  have hS : bS G X a (.inr (7, [.ref (a + 1), .null, .null, .null, .null, .int 0, .int 0, .int 0, .int 0, .int 0, .int 0, .int 0]) :: [.inl (G.2.2.2.1 0, 19, .inl (fun _ => 0))]) _ _ := hS
  refine i_arr (pc := 12) (t := 0) (at9 := .int) (n := 701) (N' := 701) (w := 3) (k := 1) (idx := 15) (c0 := .inl (fun _ => 0)) h (by decide) rfl (fun _ _ h => h) wi_262 (fun _ => rfl) (by decide) (by decide) (by decide) (by decide) (by decide) clX7 (by decide) (Nat.le_of_ble_eq_true rfl) rfl wi_221 (fun _ => rfl) (fun _ => rfl) hl (by decide +kernel) (Or.inr (Or.inr ⟨701, by decide +kernel, rfl, by decide⟩)) (by decide +kernel) (by decide +kernel) rfl hS (fun H1 locs1 hS => ?_)
  have hS : bS G X a (.inr (7, [.ref (a + 1), .ref (a + 2), .null, .null, .null, .int 0, .int 0, .int 0, .int 0, .int 0, .int 0, .int 0]) :: [.inl (G.2.2.2.1 0, 19, .inl (fun _ => 0)), .inl (G.2.2.2.1 0, 701, .inl (fun _ => 0))]) _ _ := hS
  refine i_arr (pc := 21) (t := 0) (at9 := .int) (n := 701) (N' := 701) (w := 3) (k := 2) (idx := 18) (c0 := .inl (fun _ => 0)) h (by decide) rfl (fun _ _ h => h) wi_262 (fun _ => rfl) (by decide) (by decide) (by decide) (by decide) (by decide) clX7 (by decide) (Nat.le_of_ble_eq_true rfl) rfl wi_222 (fun _ => rfl) (fun _ => rfl) hl (by decide +kernel) (Or.inr (Or.inr ⟨701, by decide +kernel, rfl, by decide⟩)) (by decide +kernel) (by decide +kernel) rfl hS (fun H1 locs1 hS => ?_)
  have hS : bS G X a (.inr (7, [.ref (a + 1), .ref (a + 2), .ref (a + 3), .null, .null, .int 0, .int 0, .int 0, .int 0, .int 0, .int 0, .int 0]) :: [.inl (G.2.2.2.1 0, 19, .inl (fun _ => 0)), .inl (G.2.2.2.1 0, 701, .inl (fun _ => 0)), .inl (G.2.2.2.1 0, 701, .inl (fun _ => 0))]) _ _ := hS
  refine i_arr (pc := 30) (t := 0) (at9 := .int) (n := 701) (N' := 701) (w := 3) (k := 3) (idx := 21) (c0 := .inl (fun _ => 0)) h (by decide) rfl (fun _ _ h => h) wi_262 (fun _ => rfl) (by decide) (by decide) (by decide) (by decide) (by decide) clX7 (by decide) (Nat.le_of_ble_eq_true rfl) rfl wi_223 (fun _ => rfl) (fun _ => rfl) hl (by decide +kernel) (Or.inr (Or.inr ⟨701, by decide +kernel, rfl, by decide⟩)) (by decide +kernel) (by decide +kernel) rfl hS (fun H1 locs1 hS => ?_)
  have hS : bS G X a (.inr (7, [.ref (a + 1), .ref (a + 2), .ref (a + 3), .ref (a + 4), .null, .int 0, .int 0, .int 0, .int 0, .int 0, .int 0, .int 0]) :: [.inl (G.2.2.2.1 0, 19, .inl (fun _ => 0)), .inl (G.2.2.2.1 0, 701, .inl (fun _ => 0)), .inl (G.2.2.2.1 0, 701, .inl (fun _ => 0)), .inl (G.2.2.2.1 0, 701, .inl (fun _ => 0))]) _ _ := hS
  refine lv_iconst (pc := 39) (v := nI 0) hx hb (show decode cX7_init 39 = .ok (.iconst 0, 1) by decide +kernel) (by decide) ?_
  refine lv_istore_n (pc := 40) (lv' := [(1, .int (nI 0)), (0, .ref a)]) hx hb (show decode cX7_init 40 = .ok (.istore_n 1, 1) by decide +kernel) rfl hl (by decide) rfl (fun arr hl => ?_)
  refine lv_iconst (pc := 41) (v := nI 0) hx hb (show decode cX7_init 41 = .ok (.iconst 0, 1) by decide +kernel) (by decide) ?_
  refine lv_istore_n (pc := 42) (lv' := [(2, .int (nI 0)), (1, .int (nI 0)), (0, .ref a)]) hx hb (show decode cX7_init 42 = .ok (.istore_n 2, 1) by decide +kernel) rfl hl (by decide) rfl (fun arr hl => ?_)
  refine lv_iconst (pc := 43) (v := nI 0) hx hb (show decode cX7_init 43 = .ok (.iconst 0, 1) by decide +kernel) (by decide) ?_
  refine lv_istore_n (pc := 44) (lv' := [(3, .int (nI 0)), (2, .int (nI 0)), (1, .int (nI 0)), (0, .ref a)]) hx hb (show decode cX7_init 44 = .ok (.istore_n 3, 1) by decide +kernel) rfl hl (by decide) rfl (fun arr hl => ?_)
  refine sc_loop h (fun H9 locs9 arr9 hS9 => ?_) 89 0 _ _ arr rfl (lv_sub hl [3, 2, 1, 0] rfl) (by rw [sc_0]; exact hS)
  rw [sc_fin] at hS9
  exact W.vret hx hb hr (fun t ht _ => ⟨⟨(), rfl, trivial, by show va_P _ _ _ t.heap; rw [ht]; exact hS9.1⟩, hS9.2.F ht⟩) hS9.2.2.2 (show decode cX7_init 107 = .ok (.return_, 1) by decide +kernel) hlk
