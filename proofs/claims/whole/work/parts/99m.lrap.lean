-- THE LAW'S OWN rap, WHICH CATCHES
abbrev hhR : List (Nat × Nat × Nat × Nat) := [(0, 10, 13, 13), (0, 10, 17, 15)]
abbrev wsLR : List Cond := Cond.codeWith yL_rap cL_rap 5 (some .int) hhR :: zgw
abbrev rmLR : Room := { frames := 7, cells := 1, slots := 6, locals := 120 }
def lPre (G : zG) (M : zM) (r x : Int32) : Array Value → State → Prop := fun v U => v = #[.ref (G.2.2.2.2 11 0), .int r, .int x, .ref (G.2.2.2.2 94 0)] ∧ zRep G M U.heap ∧ zKn G U ∧ zEx G U U.heap
theorem lw_1 : Cond.methodLink RL 7 yX11_rap ∈ zgw := by decide +kernel
theorem lw_2 : Cond.instanceMethod yX11_rap ∈ zgw := by decide +kernel
theorem lw_3 : Cond.selects RX11 yX11_rap yX11_rap ∈ zgw := by decide +kernel
theorem lw_4 : Cond.initialized RX11 ∈ zgw := by decide +kernel
theorem lw_5 : Cond.code yX11_rap cX11_rap 3 (some .int) ∈ zgw := by decide +kernel
theorem lw_6 : Cond.classLink RL 13 "java/lang/IndexOutOfBoundsException" ∈ zgw := by decide +kernel
theorem lw_7 : Cond.classLink RL 15 "java/util/NoSuchElementException" ∈ zgw := by decide +kernel
set_option maxHeartbeats 4000000 in
theorem xc_lrap {G : zG} (hfl : G.1.stackTraces = false) (hI : zInj G) {K : Int32 → zM → Prop} {M : zM} {r x : Int32} (hf : mX11_rap (zK1 (fun v M' => K 0 (zsL M' 94 0 0 v.toInt64))) (fun n M' => K (if n = 1 then 1 else 2) M') [kbR, .inl r, .inl x] M) : Met G.1 yL_rap wsLR rmLR (lPre G M r x) (va_Qi K (zB1 G) (zA G)) 1 6 (zA G) := by
  refine va_MetW (hh := hhR) (cc := cL_rap) (maxL := 5) (ret := some .int) (by decide) rfl ?_
  intro p e s m args below meth c s₁ B hml hv
  obtain ⟨rfl, hM, hK, hE⟩ := hv
  have hx := B.exec
  have hb := B.bytes
  have hr := B.returns
  have hlocks := B.notSynchronized
  have hts : ∀ w ∈ zgw, w.before _ s = true := fun w h => atoms_spec (ws := wsLR) B.pre w (List.mem_cons_of_mem _ h)
  have hown : s.vm.findClass RL = some m.cls := findClass_of_methodNamed B.named
  have htab : c.exceptionTable.toList = tableOf hhR := vx_table (x := yL_rap) B (atoms_spec (ws := wsLR) B.pre _ List.mem_cons_self)
  have hl := lv_entry ([.ref (G.2.2.2.2 11 0), .int r, .int x, .ref (G.2.2.2.2 94 0)]) (n := 5) (Nat.le_of_ble_eq_true rfl)
  rw [lg_entry_eq]
  generalize (lg_sl ([.ref (G.2.2.2.2 11 0), .int r, .int x, .ref (G.2.2.2.2 94 0)]) ++ List.replicate (5 - (lg_sl ([.ref (G.2.2.2.2 11 0), .int r, .int x, .ref (G.2.2.2.2 94 0)])).length) Slot.unset).toArray = ls at hl ⊢
  have hl : lv_has ls 5 [(0, .ref (G.2.2.2.2 11 0)), (1, .int r), (2, .int x), (3, .ref (G.2.2.2.2 94 0))] := hl
  refine lv_aload_n hx hb (show decode cL_rap 0 = .ok (.aload_n 3, 1) by decide +kernel) rfl (lv_at hl 3 rfl) ?_
  refine lv_iconst (v := 0) hx hb (show decode cL_rap 1 = .ok (.iconst 0, 1) by decide +kernel) (by decide) ?_
  refine lv_aload_n hx hb (show decode cL_rap 2 = .ok (.aload_n 0, 1) by decide +kernel) rfl (lv_at hl 0 rfl) ?_
  refine lv_iload_n hx hb (show decode cL_rap 3 = .ok (.iload_n 1, 1) by decide +kernel) rfl (lv_at hl 1 rfl) ?_
  refine lv_iload_n hx hb (show decode cL_rap 4 = .ok (.iload_n 2, 1) by decide +kernel) rfl (lv_at hl 2 rfl) ?_
  have hS : va_S (zA G) s.heap s.heap [] := va_S.rf
  have hMet := xc_rap hfl hf (by simp [zok, kbR]; decide) hI
  obtain ⟨c1, c2, c3, c4, c5, c6, c7⟩ := clX11
  have hP := zat1 hM (k := 11) (i := 0) (by decide) (zcell_obj c1)
  rw [c2] at hP
  have hG : GoodIn zgw (wsV RL 7 RX11 yX11_rap (zws yX11_rap YX11_rap)) := zgw_in (fun w h => by
    rcases List.mem_append.mp h with h | h
    · simp only [List.mem_cons, List.not_mem_nil, or_false] at h
      rcases h with rfl | rfl | rfl | rfl
      · exact lw_1
      · exact lw_2
      · exact lw_3
      · exact lw_4
    · rcases List.mem_cons.mp h with rfl | h
      · exact lw_5
      · exact h)
  have run := vx_runV (e := e) (R := (headSpec wsLR rmLR).room) (below := below) (meth := meth) (locs := ([] : List Loc)) (As := [.int r, .int x]) (rest := [.int 0, .ref (G.2.2.2.2 94 0)]) (b := G.2.2.2.2 11 0) (g := F0 m 5 ls [.int x, .int r, .ref (G.2.2.2.2 11 0), .int 0, .ref (G.2.2.2.2 94 0)]) (cells := 0) (slots := 0) ⟨hx, hb, hml, hown, hts⟩ hMet
    (cwV 2 hts hG rfl rfl rfl ⟨rfl, mdX11_rap⟩ ⟨by decide, by decide⟩) ⟨xPre_blind, va_recv hK.1 hP (q0 := 0) c4 rfl, fun U hU hW => ⟨⟨rfl, by rw [hU]; exact hM, hK.warm hW⟩, by rw [hU]; exact hE.warm hW⟩⟩ rfl rfl hl.1 rfl (Nat.le_of_ble_eq_true rfl) (show decode cL_rap 5 = .ok (.invokevirtual 7, 3) by decide +kernel) ⟨by decide, by decide⟩
  refine vx_calli run hS (fun q _ h => h) (fun q h => h) (fun q _ h => h) (fun E ce q9 u t H1 locs1 ht hal hp hB hsz hq hS1 hce hcv hcl => ?_) (fun v u t H1 locs1 ht hal hp hB hsz hq hS1 => ?_)
  · obtain ⟨n, M1⟩ := u
    obtain ⟨rfl, hM1⟩ := hB
    rw [ht] at hM1
    by_cases hn : n = 1
    · subst hn
      refine hd_catch0 (own := RL) (name := "java/lang/IndexOutOfBoundsException") hown (x := { startPc := 0, endPc := 10, handlerPc := 13, catchType := 13 }) htab (by decide) (by decide) (hts _ lw_6) hE.2.2.2.2.2.1.use hce hcv hcl ?_
      refine lv_astore (lv' := [(4, .ref q9), (0, .ref (G.2.2.2.2 11 0)), (1, .int r), (2, .int x), (3, .ref (G.2.2.2.2 94 0))]) hx hb (show decode cL_rap 13 = .ok (.astore 4, 2) by decide +kernel) hl (by decide) rfl (fun ls hl => ?_)
      refine lv_iconst (v := 1) hx hb (show decode cL_rap 15 = .ok (.iconst 1, 1) by decide +kernel) (by decide) ?_
      exact W.iret hx hb hr (fun t ht _ => ⟨⟨1, M1, rfl, hp, by show zRep G M1 t.heap; rw [ht]; exact hM1⟩, hS1.F ht⟩) hS1.2.2 (show decode cL_rap 16 = .ok (.ireturn, 1) by decide +kernel)
    · have hE2 : zEn n = "java/util/NoSuchElementException" := if_neg hn
      rw [hE2] at hcl
      refine hd_catch1 (own := RL) (name := "java/util/NoSuchElementException") hown (y := { startPc := 0, endPc := 10, handlerPc := 13, catchType := 13 }) (x := { startPc := 0, endPc := 10, handlerPc := 17, catchType := 15 }) htab (by decide) (by decide) (by decide) (by decide) (hts _ lw_6) hE.2.2.2.2.1 (hts _ lw_7) hE.2.2.2.2.2.2.1.use hce hcv hcl ?_
      refine lv_astore (lv' := [(4, .ref q9), (0, .ref (G.2.2.2.2 11 0)), (1, .int r), (2, .int x), (3, .ref (G.2.2.2.2 94 0))]) hx hb (show decode cL_rap 17 = .ok (.astore 4, 2) by decide +kernel) hl (by decide) rfl (fun ls hl => ?_)
      refine lv_iconst (v := 2) hx hb (show decode cL_rap 19 = .ok (.iconst 2, 1) by decide +kernel) (by decide) ?_
      have hp : K (if n = 1 then 1 else 2) M1 := hp
      rw [if_neg hn] at hp
      exact W.iret hx hb hr (fun t ht _ => ⟨⟨2, M1, rfl, hp, by show zRep G M1 t.heap; rw [ht]; exact hM1⟩, hS1.F ht⟩) hS1.2.2 (show decode cL_rap 20 = .ok (.ireturn, 1) by decide +kernel)
  · have hM1 : zRep G u H1 := by rw [← ht]; exact hB
    refine lv_i2l (v := v.toInt64) hx hb (show decode cL_rap 8 = .ok (.i2l, 1) by decide +kernel) rfl ?_
    have hP2 : H1[G.2.2.2.2 94 0]? = some (vp_cell (G.2.2.2.1 3) (1, .inr (.inl (u.2.1 94 0)))) := by
      have h9 := hM1 94 0 (by decide)
      rw [zcell_longs rfl] at h9
      exact h9
    refine W.last hx hb hP2 ((hK.1.2 3 _ (hK.ty (by decide))).1 1 (fun j => .long (u.2.1 94 0 j))) (fun q => by cases q) (by show ¬ ((0 : Int32) < 0 ∨ (arrV _ _ _).slots.size ≤ _); rw [arrV_size]; show ¬ ((0 : Int32) < 0 ∨ 1 ≤ (0 : Int32).toNatClampNeg); decide) rfl rfl (show decode cL_rap 9 = .ok (.lastore, 1) by decide +kernel) fun H2 e2 z2 oq => ?_
    have hM2 : zRep G (zsL u 94 0 0 v.toInt64) H2 := by
      refine zarr_put hI hM1 (k := 94) (i := 0) (by decide) (fun k' i' _ q => zcell_sL q) ?_ oq
      rw [zcell_longs rfl]
      show H2[_]? = some (vp_cell _ _)
      rw [e2, vp_cell_l, arrV_store]
      congr 2
    have hS2 := hS1.put (k := (0 : Int32).toNatClampNeg) z2 oq (hI.2 94 0 (by decide))
    refine lv_goto (pc := 10) (tgt := 21) hx hb (show decode cL_rap 10 = .ok (.goto 11, 3) by decide +kernel) (by decide) ?_
    refine lv_iconst (v := 0) hx hb (show decode cL_rap 21 = .ok (.iconst 0, 1) by decide +kernel) (by decide) ?_
    exact W.iret hx hb hr (fun t ht _ => ⟨⟨0, _, rfl, hp, by show zRep G _ t.heap; rw [ht]; exact hM2⟩, hS2.F ht⟩) hS2.2.2 (show decode cL_rap 22 = .ok (.ireturn, 1) by decide +kernel)
