set_option maxHeartbeats 4000000 in
theorem lc_text {G : zG} {X : zX} {Q : State → Prop} {kc ks : Nat} (h : zC G X YL) {b L i q3 : Nat} {xs : Nat → Int32} {A : aA} {M : zM} {H : Heap} {locs : List Loc} {arr : Array Slot} (hX : va_X b L xs X.2.2.1 X.2.2.1.heap) (hbl : b < X.2.2.1.heap.size) (hbA : ¬ zA G b) (hL : L ≤ 3072) (hi : i + 5 < L) (hroom : kc ≤ room_1.cells ∧ ks ≤ room_1.slots) (hl : lv_has arr 7 (lawV b (G.2.2.2.2 11 0) (G.2.2.2.2 12 0) q3 (nI i))) (hJ : JJ A M) (hM : zRep G M H) (hS : va_S (zA G) X.2.2.1.heap H locs) (kk : ∀ (A' : aA) (M' : zM) (H' : Heap) (locs' : List Loc), JJ A' M' → zRep G M' H' → va_S (zA G) X.2.2.1.heap H' locs' → zWL G X YL kc ks H' locs' Q (zFr X 1654 arr [])) : zWL G X YL kc ks H locs Q (zFr X 293 arr []) := by
  obtain ⟨hx, hb, -⟩ := id h
  refine lv_aload_n hx hb (show decode cL_law 293 = .ok (.aload_n 1, 1) by decide +kernel) rfl (lv_at hl 1 rfl) ?_
  refine l_scr (pc := 294) h hX hbl hbA hS hl hL (c := 1) (by omega) (n := 1) rfl (by decide +kernel) (by decide +kernel) (by decide +kernel) (by decide +kernel) (by decide +kernel) ?_
  refine l_callV (pc := 300) h zcX11_text clX11 rfl mdX11_text ⟨rfl, rfl, by decide, by decide⟩ ⟨wl_705, wl_706, wl_707, wl_123, wl_708⟩ (by decide +kernel) hroom (k := 11) (i := 0) (as := [.inl (xs (i + 1))]) (rs := []) (kC_text hJ) (by decide) (by simp [zok]) rfl (Nat.le_of_ble_eq_true rfl) rfl hM hS hl (fun r M1 H1 locs1 hk1 hM1 hr1 hS1 => ?_)
  obtain ⟨rfl, hJ1⟩ := hk1
  refine lv_aload_n hx hb (show decode cL_law 303 = .ok (.aload_n 2, 1) by decide +kernel) rfl (lv_at hl 2 rfl) ?_
  refine l_scr (pc := 304) h hX hbl hbA hS1 hl hL (c := 1) (by omega) (n := 1) rfl (by decide +kernel) (by decide +kernel) (by decide +kernel) (by decide +kernel) (by decide +kernel) ?_
  refine l_callV (pc := 310) h zcX12_text clX12 rfl mdX12_text ⟨rfl, rfl, by decide, by decide⟩ ⟨wl_1678, wl_1679, wl_1680, wl_139, wl_1681⟩ (by decide +kernel) hroom (k := 12) (i := 0) (as := [.inl (xs (i + 1))]) (rs := _) (kR_text hJ1) (by decide) (by simp [zok]) rfl (Nat.le_of_ble_eq_true rfl) rfl hM1 hS1 hl (fun r M2 H2 locs2 hk2 hM2 hr2 hS2 => ?_)
  obtain ⟨rfl, hJ2⟩ := hk2
  refine lv_icmp_eq (tgt := 1654) hx hb (show decode cL_law 313 = .ok (.if_icmp .eq 1341, 3) by decide +kernel) (by decide) (fun _ => kk _ _ _ _ hJ2 hM2 hS2) (fun z => absurd rfl z)
