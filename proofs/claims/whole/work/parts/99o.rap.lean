theorem lw_10 : Cond.codeWith yL_rap cL_rap 5 (some .int) hhR ∈ zgw := by decide +kernel
theorem lPre_blind {G : zG} {M : zM} {r x : Int32} : FrameBlind (lPre G M r x) := fun a U g mk q => ⟨q.1, q.2.1, zKn.same (s := U) rfl q.2.2.1, q.2.2.2.same rfl⟩
theorem kR_rap2 {A : aA} {M : zM} {r x : Int32} (hJ : JJ A M) : mX12_rap (fun rr M' => rr = [.inl (v_rap A r x).2] ∧ JJ A M' ∧ M'.1 12 0 2 = (v_rap A r x).1 ∧ M'.2.1 = M.2.1) [refR, .inl r, .inl x] M := by
  obtain ⟨I, L, P⟩ := M
  obtain ⟨hC, hR, hW⟩ := hJ
  exact r_rap hR (fun I1 g1 t1 => ⟨rfl, ⟨hC.y g1.Y, hR.q g1 zeLr.rf, hW⟩, t1, rfl⟩)
theorem kR_thrown2 {A : aA} {M : zM} {v : Int32} (hJ : JJ A M) (ht : M.1 12 0 2 = v) : mX12_thrown (fun rr M' => rr = [.inl v] ∧ JJ A M' ∧ M'.2.1 = M.2.1) [refR] M := by
  obtain ⟨I, L, P⟩ := M
  subst ht
  exact p_thrown ⟨rfl, hJ, rfl⟩
theorem RR.l {A : aA} {I : zI} {L L' : zJ} (h : RR A I L) (hL : ∀ c, L' 12 0 c = L 12 0 c) : RR A I L' := by
  obtain ⟨h1, h2, h3, h4, h5, h6, h7⟩ := h
  refine ⟨h1, h2, h3, h4, ⟨h5.1, (hL _).trans h5.2⟩, ?_, h7⟩
  revert h6
  unfold RRi
  cases A.im with
  | none => exact id
  | some S =>
    intro h6
    simp only [hL]
    exact h6
set_option maxHeartbeats 4000000 in
theorem lc_rap {G : zG} {X : zX} {Q : State → Prop} {kc ks : Nat} (h : zC G X YL) {b L i q3 : Nat} {xs : Nat → Int32} {A : aA} {M : zM} {H : Heap} {locs : List Loc} {arr : Array Slot} (hX : va_X b L xs X.2.2.1 X.2.2.1.heap) (hbl : b < X.2.2.1.heap.size) (hbA : ¬ zA G b) (hL : L ≤ 3072) (hi : i + 5 < L) (hfl : G.1.stackTraces = false) (hE : zEx G X.2.2.1 X.2.2.1.heap) (hroom : kc + 1 ≤ room_1.cells ∧ ks + 6 ≤ room_1.slots) (hl : lv_has arr 7 (lawV b (G.2.2.2.2 11 0) (G.2.2.2.2 12 0) (G.2.2.2.2 94 0) (nI i))) (hJ : JJ A M) (hM : zRep G M H) (hS : va_S (zA G) X.2.2.1.heap H locs) (kk : ∀ (A' : aA) (M' : zM) (H' : Heap) (locs' : List Loc) (arr' : Array Slot), lv_has arr' 7 (lawV b (G.2.2.2.2 11 0) (G.2.2.2.2 12 0) (G.2.2.2.2 94 0) (nI i)) → JJ A' M' → zRep G M' H' → va_S (zA G) X.2.2.1.heap H' locs' → zWL G X YL (kc + 1) (ks + 6) H' locs' Q (zFr X 1654 arr' [])) : zWL G X YL kc ks H locs Q (zFr X 380 arr []) := by
  obtain ⟨hx, hb, hml, hown, hts, hr, hlk, hKn, hI⟩ := id h
  obtain ⟨rr, er⟩ : ∃ r, r = xs (i + 1) := ⟨_, rfl⟩
  obtain ⟨xx, ex⟩ : ∃ r, r = xs (i + 2) := ⟨_, rfl⟩
  refine lv_aload_n hx hb (show decode cL_law 380 = .ok (.aload_n 1, 1) by decide +kernel) rfl (lv_at hl 1 rfl) ?_
  refine l_scr (pc := 381) h hX hbl hbA hS hl hL (c := 1) (by omega) (n := 1) rfl (by decide +kernel) (by decide +kernel) (by decide +kernel) (by decide +kernel) (by decide +kernel) ?_
  refine l_scr (pc := 387) h hX hbl hbA hS hl hL (c := 2) (by omega) (n := 2) rfl (by decide +kernel) (by decide +kernel) (by decide +kernel) (by decide +kernel) (by decide +kernel) ?_
  rw [← er, ← ex]
  refine lv_aload_n hx hb (show decode cL_law 393 = .ok (.aload_n 3, 1) by decide +kernel) rfl (lv_at hl 3 rfl) ?_
  have hMet := xc_lrap (K := fun k M' => k = (v_rap A rr xx).1 ∧ JJ A M' ∧ (k = 0 → M'.2.1 94 0 0 = (v_rap A rr xx).2.toInt64)) hfl hI (M := M) (r := rr) (x := xx) (by
    obtain ⟨I, L9, P⟩ := M
    obtain ⟨hC, hR, hW⟩ := id hJ
    refine c_rap hC hW (fun e => ⟨e.symm, ⟨hC, hR.l (fun c => by simp [zsL]), hW⟩, fun _ => by simp [zsL]⟩) (fun n hn e => ?_)
    rcases hn with rfl | rfl
    · exact ⟨e.symm, hJ, fun z => absurd z (by decide)⟩
    · exact ⟨e.symm, hJ, fun z => absurd z (by decide)⟩)
  have hG : GoodIn zgw (va_wsS RL 39 yL_rap wsLR) := zgw_in (fun w h => by
    unfold va_wsS at h
    rcases List.mem_append.mp h with h | h
    · simp only [List.mem_cons, List.not_mem_nil, or_false] at h
      rcases h with rfl | rfl | rfl
      · exact wl_1312
      · exact wl_1313
      · exact wl_122
    · rcases List.mem_cons.mp h with rfl | h
      · exact lw_10
      · exact h)
  have run := vx_runSW (e := X.2.1) (R := room_1) (below := X.2.2.2.2.2.1) (meth := X.2.2.2.2.2.2.1) (locs := locs) (As := [.ref (G.2.2.2.2 11 0), .int rr, .int xx, .ref (G.2.2.2.2 94 0)]) (rest := []) (g := zFr X 394 arr [.ref (G.2.2.2.2 94 0), .int xx, .int rr, .ref (G.2.2.2.2 11 0)]) (cells := kc) (slots := ks) (H := H) ⟨hx, hb, hml, hown, hts⟩ hMet
    (vx_cwSW 4 hts hG rfl rfl rfl ⟨by decide +kernel, by decide +kernel, by decide +kernel⟩ ⟨by decide, by decide⟩) ⟨lPre_blind, fun U hU hW => ⟨rfl, by rw [hU]; exact hM, hKn.warm hW, by rw [hU]; exact (hE.kept hS).warm hW⟩⟩ rfl rfl hl.1 rfl (Nat.le_of_ble_eq_true rfl) (show decode cL_law 394 = .ok (.invokestatic 39, 3) by decide +kernel) hroom
  refine va_calli run hS (fun q _ h => h) (fun q h => h) (fun k M1 t H1 locs1 ht hal hp hB hsz hq hS1 => ?_)
  have hM1 : zRep G M1 H1 := by rw [← ht]; exact hB
  obtain ⟨hk, hJ1, hv⟩ := hp
  have hroom2 : kc + 1 ≤ room_1.cells ∧ ks + 6 ≤ room_1.slots := hroom
  refine lv_istore (lv' := (5, .int k) :: lawV b (G.2.2.2.2 11 0) (G.2.2.2.2 12 0) (G.2.2.2.2 94 0) (nI i)) hx hb (show decode cL_law 397 = .ok (.istore 5, 2) by decide +kernel) hl (by decide) rfl (fun arr5 hl5 => ?_)
  have hl : lv_has arr5 7 (lawV b (G.2.2.2.2 11 0) (G.2.2.2.2 12 0) (G.2.2.2.2 94 0) (nI i)) := lv_sub hl5 [1, 2, 3, 4, 5] rfl
  refine lv_aload_n hx hb (show decode cL_law 399 = .ok (.aload_n 2, 1) by decide +kernel) rfl (lv_at hl 2 rfl) ?_
  refine l_scr (pc := 400) h hX hbl hbA hS1 hl hL (c := 1) (by omega) (n := 1) rfl (by decide +kernel) (by decide +kernel) (by decide +kernel) (by decide +kernel) (by decide +kernel) ?_
  refine l_scr (pc := 406) h hX hbl hbA hS1 hl hL (c := 2) (by omega) (n := 2) rfl (by decide +kernel) (by decide +kernel) (by decide +kernel) (by decide +kernel) (by decide +kernel) ?_
  rw [← er, ← ex]
  refine l_callV (pc := 412) h zcX12_rap clX12 rfl mdX12_rap ⟨rfl, rfl, by decide, by decide⟩ ⟨wl_1804, wl_1805, wl_1806, wl_139, wl_1807⟩ (by decide +kernel) hroom2 (k := 12) (i := 0) (as := [.inl rr, .inl xx]) (rs := []) (kR_rap2 hJ1) (by decide) (by simp [zok]) rfl (Nat.le_of_ble_eq_true rfl) rfl hM1 hS1 hl (fun r M2 H2 locs2 hk2 hM2 hr2 hS2 => ?_)
  obtain ⟨rfl, hJ2, ht2, hL2⟩ := hk2
  refine lv_istore (lv' := (6, .int (v_rap A rr xx).2) :: (5, .int k) :: lawV b (G.2.2.2.2 11 0) (G.2.2.2.2 12 0) (G.2.2.2.2 94 0) (nI i)) hx hb (show decode cL_law 415 = .ok (.istore 6, 2) by decide +kernel) hl5 (by decide) rfl (fun arr6 hl6 => ?_)
  have hl : lv_has arr6 7 (lawV b (G.2.2.2.2 11 0) (G.2.2.2.2 12 0) (G.2.2.2.2 94 0) (nI i)) := lv_sub hl6 [2, 3, 4, 5, 6] rfl
  refine lv_aload_n hx hb (show decode cL_law 417 = .ok (.aload_n 2, 1) by decide +kernel) rfl (lv_at hl 2 rfl) ?_
  refine l_callV (pc := 418) h zcX12_thrown clX12 rfl mdX12_thrown ⟨rfl, rfl, by decide, by decide⟩ ⟨wl_1670, wl_1671, wl_1672, wl_139, wl_1673⟩ (by decide +kernel) hroom2 (k := 12) (i := 0) (as := []) (rs := []) (kR_thrown2 hJ2 ht2) (by decide) (by simp [zok]) rfl (Nat.le_of_ble_eq_true rfl) rfl hM2 hS2 hl (fun r M3 H3 locs3 hk3 hM3 hr3 hS3 => ?_)
  obtain ⟨rfl, hJ3, hL3⟩ := hk3
  refine lv_iload hx hb (show decode cL_law 421 = .ok (.iload 5, 2) by decide +kernel) (lv_at hl6 1 rfl) ?_
  refine lv_icmp_eq (tgt := 428) hx hb (show decode cL_law 423 = .ok (.if_icmp .eq 5, 3) by decide +kernel) (by decide) (fun _ => ?_) (fun z => absurd hk.symm z)
  refine lv_iload hx hb (show decode cL_law 428 = .ok (.iload 5, 2) by decide +kernel) (lv_at hl6 1 rfl) ?_
  refine lv_if_ne (tgt := 445) hx hb (show decode cL_law 430 = .ok (.ifCond .ne 15, 3) by decide +kernel) (by decide) (fun _ => lv_goto (tgt := 1654) hx hb (show decode cL_law 445 = .ok (.goto 1209, 3) by decide +kernel) (by decide) (kk _ _ _ _ _ hl hJ3 hM3 hS3)) (fun k0 => ?_)
  refine lv_aload_n hx hb (show decode cL_law 433 = .ok (.aload_n 3, 1) by decide +kernel) rfl (lv_at hl 3 rfl) ?_
  refine lv_iconst (v := 0) hx hb (show decode cL_law 434 = .ok (.iconst 0, 1) by decide +kernel) (by decide) ?_
  have hP := zat1 hM3 (k := 94) (i := 0) (by decide) (zcell_longs rfl)
  refine va_lald hx hb hKn.1 hP 0 3 rfl (hKn.ty (by decide)) (by unfold vp_in; decide) (show decode cL_law 435 = .ok (.laload, 1) by decide +kernel) ?_
  refine lv_iload hx hb (show decode cL_law 436 = .ok (.iload 6, 2) by decide +kernel) (lv_at hl6 0 rfl) ?_
  refine lv_i2l (v := (v_rap A rr xx).2.toInt64) hx hb (show decode cL_law 438 = .ok (.i2l, 1) by decide +kernel) rfl ?_
  refine W.lcmp hx hb (show decode cL_law 439 = .ok (.lcmp, 1) by decide +kernel) ?_
  have e3 : M3.2.1 94 0 0 = (v_rap A rr xx).2.toInt64 := by rw [hL3, hL2]; exact hv k0
  refine lv_if_eq (tgt := 445) hx hb (show decode cL_law 440 = .ok (.ifCond .eq 5, 3) by decide +kernel) (by decide) (fun _ => lv_goto (tgt := 1654) hx hb (show decode cL_law 445 = .ok (.goto 1209, 3) by decide +kernel) (by decide) (kk _ _ _ _ _ hl hJ3 hM3 hS3)) (fun z => absurd (by show lg_cmp (M3.2.1 94 0 0) _ = 0; rw [e3]; exact lcm0 _) z)
