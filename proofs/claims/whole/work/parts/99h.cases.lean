set_option maxHeartbeats 4000000 in
theorem lc_feed {G : zG} {X : zX} {Q : State → Prop} {kc ks : Nat} (h : zC G X YL) {b L i q3 : Nat} {xs : Nat → Int32} {A : aA} {M : zM} {H : Heap} {locs : List Loc} {arr : Array Slot} (hX : va_X b L xs X.2.2.1 X.2.2.1.heap) (hbl : b < X.2.2.1.heap.size) (hbA : ¬ zA G b) (hL : L ≤ 3072) (hi : i + 5 < L) (hroom : kc ≤ room_1.cells ∧ ks ≤ room_1.slots) (hl : lv_has arr 7 (lawV b (G.2.2.2.2 11 0) (G.2.2.2.2 12 0) q3 (nI i))) (hJ : JJ A M) (hM : zRep G M H) (hS : va_S (zA G) X.2.2.1.heap H locs) (kk : ∀ (A' : aA) (M' : zM) (H' : Heap) (locs' : List Loc), JJ A' M' → zRep G M' H' → va_S (zA G) X.2.2.1.heap H' locs' → zWL G X YL kc ks H' locs' Q (zFr X 1654 arr [])) : zWL G X YL kc ks H locs Q (zFr X 220 arr []) := by
  obtain ⟨hx, hb, -⟩ := id h
  refine lv_aload_n hx hb (show decode cL_law 220 = .ok (.aload_n 1, 1) by decide +kernel) rfl (lv_at hl 1 rfl) ?_
  refine l_scr (pc := 221) h hX hbl hbA hS hl hL (c := 1) (by omega) (n := 1) rfl (by decide +kernel) (by decide +kernel) (by decide +kernel) (by decide +kernel) (by decide +kernel) ?_
  refine l_scr (pc := 227) h hX hbl hbA hS hl hL (c := 2) (by omega) (n := 2) rfl (by decide +kernel) (by decide +kernel) (by decide +kernel) (by decide +kernel) (by decide +kernel) ?_
  refine l_scr (pc := 233) h hX hbl hbA hS hl hL (c := 3) (by omega) (n := 3) rfl (by decide +kernel) (by decide +kernel) (by decide +kernel) (by decide +kernel) (by decide +kernel) ?_
  refine l_scr (pc := 239) h hX hbl hbA hS hl hL (c := 4) (by omega) (n := 4) rfl (by decide +kernel) (by decide +kernel) (by decide +kernel) (by decide +kernel) (by decide +kernel) ?_
  refine l_scr (pc := 245) h hX hbl hbA hS hl hL (c := 5) (by omega) (n := 5) rfl (by decide +kernel) (by decide +kernel) (by decide +kernel) (by decide +kernel) (by decide +kernel) ?_
  refine l_callV (pc := 251) h zcX11_feed clX11 rfl mdX11_feed ⟨rfl, rfl, by decide, by decide⟩ ⟨wl_697, wl_698, wl_699, wl_123, wl_700⟩ (by decide +kernel) hroom (k := 11) (i := 0) (as := [.inl (xs (i + 1)), .inl (xs (i + 2)), .inl (xs (i + 3)), .inl (xs (i + 4)), .inl (xs (i + 5))]) (rs := []) (kC_feed hJ) (by decide) (by simp [zok]) rfl (Nat.le_of_ble_eq_true rfl) rfl hM hS hl (fun r M1 H1 locs1 hk1 hM1 hr1 hS1 => ?_)
  obtain ⟨rfl, hJ1⟩ := hk1
  refine lv_aload_n hx hb (show decode cL_law 254 = .ok (.aload_n 2, 1) by decide +kernel) rfl (lv_at hl 2 rfl) ?_
  refine l_scr (pc := 255) h hX hbl hbA hS1 hl hL (c := 1) (by omega) (n := 1) rfl (by decide +kernel) (by decide +kernel) (by decide +kernel) (by decide +kernel) (by decide +kernel) ?_
  refine l_scr (pc := 261) h hX hbl hbA hS1 hl hL (c := 2) (by omega) (n := 2) rfl (by decide +kernel) (by decide +kernel) (by decide +kernel) (by decide +kernel) (by decide +kernel) ?_
  refine l_scr (pc := 267) h hX hbl hbA hS1 hl hL (c := 3) (by omega) (n := 3) rfl (by decide +kernel) (by decide +kernel) (by decide +kernel) (by decide +kernel) (by decide +kernel) ?_
  refine l_scr (pc := 273) h hX hbl hbA hS1 hl hL (c := 4) (by omega) (n := 4) rfl (by decide +kernel) (by decide +kernel) (by decide +kernel) (by decide +kernel) (by decide +kernel) ?_
  refine l_scr (pc := 279) h hX hbl hbA hS1 hl hL (c := 5) (by omega) (n := 5) rfl (by decide +kernel) (by decide +kernel) (by decide +kernel) (by decide +kernel) (by decide +kernel) ?_
  refine l_callV (pc := 285) h zcX12_feed clX12 rfl mdX12_feed ⟨rfl, rfl, by decide, by decide⟩ ⟨wl_1674, wl_1675, wl_1676, wl_139, wl_1677⟩ (by decide +kernel) hroom (k := 12) (i := 0) (as := [.inl (xs (i + 1)), .inl (xs (i + 2)), .inl (xs (i + 3)), .inl (xs (i + 4)), .inl (xs (i + 5))]) (rs := _) (kR_feed hJ1) (by decide) (by simp [zok]) rfl (Nat.le_of_ble_eq_true rfl) rfl hM1 hS1 hl (fun r M2 H2 locs2 hk2 hM2 hr2 hS2 => ?_)
  obtain ⟨rfl, hJ2⟩ := hk2
  refine lv_icmp_eq (tgt := 1654) hx hb (show decode cL_law 288 = .ok (.if_icmp .eq 1366, 3) by decide +kernel) (by decide) (fun _ => kk _ _ _ _ hJ2 hM2 hS2) (fun z => absurd rfl z)
set_option maxHeartbeats 4000000 in
theorem lc_text {G : zG} {X : zX} {Q : State → Prop} {kc ks : Nat} (h : zC G X YL) {b L i q3 : Nat} {xs : Nat → Int32} {A : aA} {M : zM} {H : Heap} {locs : List Loc} {arr : Array Slot} (hX : va_X b L xs X.2.2.1 X.2.2.1.heap) (hbl : b < X.2.2.1.heap.size) (hbA : ¬ zA G b) (hL : L ≤ 3072) (hi : i + 5 < L) (hroom : kc ≤ room_1.cells ∧ ks ≤ room_1.slots) (hl : lv_has arr 7 (lawV b (G.2.2.2.2 11 0) (G.2.2.2.2 12 0) q3 (nI i))) (hJ : JJ A M) (hM : zRep G M H) (hS : va_S (zA G) X.2.2.1.heap H locs) (kk : ∀ (A' : aA) (M' : zM) (H' : Heap) (locs' : List Loc), JJ A' M' → zRep G M' H' → va_S (zA G) X.2.2.1.heap H' locs' → zWL G X YL kc ks H' locs' Q (zFr X 1654 arr [])) : zWL G X YL kc ks H locs Q (zFr X 293 arr []) := by
  obtain ⟨hx, hb, -⟩ := id h
  refine lv_aload_n hx hb (show decode cL_law 293 = .ok (.aload_n 1, 1) by decide +kernel) rfl (lv_at hl 1 rfl) ?_
  refine l_scr (pc := 294) h hX hbl hbA hS hl hL (c := 1) (by omega) (n := 1) rfl (by decide +kernel) (by decide +kernel) (by decide +kernel) (by decide +kernel) (by decide +kernel) ?_
  refine l_callV (pc := 300) h zcX11_text clX11 rfl mdX11_text ⟨rfl, rfl, by decide, by decide⟩ ⟨wl_705, wl_706, wl_707, wl_123, wl_708⟩ (by decide +kernel) hroom (k := 11) (i := 0) (as := [.inl (xs (i + 1))]) (rs := []) (kC_text hJ) (by decide) (by simp [zok]) rfl (Nat.le_of_ble_eq_true rfl) rfl hM hS hl (fun r M1 H1 locs1 hk1 hM1 hr1 hS1 => ?_)
  obtain ⟨rfl, hJ1⟩ := hk1
  refine lv_aload_n hx hb (show decode cL_law 303 = .ok (.aload_n 2, 1) by decide +kernel) rfl (lv_at hl 2 rfl) ?_
  refine l_scr (pc := 304) h hX hbl hbA hS1 hl hL (c := 1) (by omega) (n := 1) rfl (by decide +kernel) (by decide +kernel) (by decide +kernel) (by decide +kernel) (by decide +kernel) ?_
  refine l_callV (pc := 310) h zcX12_text clX12 rfl mdX12_text ⟨rfl, rfl, by decide, by decide⟩ ⟨wl_1678, wl_1679, wl_1680, wl_139, wl_1681⟩ (by decide +kernel) hroom (k := 12) (i := 0) (as := [.inl (xs (i + 1))]) (rs := _) (kR_text hJ1) (by decide) (by simp [zok]) rfl (Nat.le_of_ble_eq_true rfl) rfl hM1 hS1 hl (fun r M2 H2 locs2 hk2 hM2 hr2 hS2 => ?_)
  obtain ⟨rfl, hJ2⟩ := hk2
  refine lv_icmp_eq (tgt := 1654) hx hb (show decode cL_law 313 = .ok (.if_icmp .eq 1341, 3) by decide +kernel) (by decide) (fun _ => kk _ _ _ _ hJ2 hM2 hS2) (fun z => absurd rfl z)
set_option maxHeartbeats 4000000 in
theorem lc_fault {G : zG} {X : zX} {Q : State → Prop} {kc ks : Nat} (h : zC G X YL) {b L i q3 : Nat} {xs : Nat → Int32} {A : aA} {M : zM} {H : Heap} {locs : List Loc} {arr : Array Slot} (hX : va_X b L xs X.2.2.1 X.2.2.1.heap) (hbl : b < X.2.2.1.heap.size) (hbA : ¬ zA G b) (hL : L ≤ 3072) (hi : i + 5 < L) (hroom : kc ≤ room_1.cells ∧ ks ≤ room_1.slots) (hl : lv_has arr 7 (lawV b (G.2.2.2.2 11 0) (G.2.2.2.2 12 0) q3 (nI i))) (hJ : JJ A M) (hM : zRep G M H) (hS : va_S (zA G) X.2.2.1.heap H locs) (kk : ∀ (A' : aA) (M' : zM) (H' : Heap) (locs' : List Loc), JJ A' M' → zRep G M' H' → va_S (zA G) X.2.2.1.heap H' locs' → zWL G X YL kc ks H' locs' Q (zFr X 1654 arr [])) : zWL G X YL kc ks H locs Q (zFr X 318 arr []) := by
  obtain ⟨hx, hb, -⟩ := id h
  refine lv_aload_n hx hb (show decode cL_law 318 = .ok (.aload_n 1, 1) by decide +kernel) rfl (lv_at hl 1 rfl) ?_
  refine l_scr (pc := 319) h hX hbl hbA hS hl hL (c := 1) (by omega) (n := 1) rfl (by decide +kernel) (by decide +kernel) (by decide +kernel) (by decide +kernel) (by decide +kernel) ?_
  refine l_callV (pc := 325) h zcX11_fault clX11 rfl mdX11_fault ⟨rfl, rfl, by decide, by decide⟩ ⟨wl_884, wl_885, wl_886, wl_123, wl_887⟩ (by decide +kernel) hroom (k := 11) (i := 0) (as := [.inl (xs (i + 1))]) (rs := []) (kC_fault hJ) (by decide) (by simp [zok]) rfl (Nat.le_of_ble_eq_true rfl) rfl hM hS hl (fun r M1 H1 locs1 hk1 hM1 hr1 hS1 => ?_)
  obtain ⟨rfl, hJ1⟩ := hk1
  refine lv_aload_n hx hb (show decode cL_law 328 = .ok (.aload_n 2, 1) by decide +kernel) rfl (lv_at hl 2 rfl) ?_
  refine l_scr (pc := 329) h hX hbl hbA hS1 hl hL (c := 1) (by omega) (n := 1) rfl (by decide +kernel) (by decide +kernel) (by decide +kernel) (by decide +kernel) (by decide +kernel) ?_
  refine l_callV (pc := 335) h zcX12_fault clX12 rfl mdX12_fault ⟨rfl, rfl, by decide, by decide⟩ ⟨wl_1796, wl_1797, wl_1798, wl_139, wl_1799⟩ (by decide +kernel) hroom (k := 12) (i := 0) (as := [.inl (xs (i + 1))]) (rs := _) (kR_fault hJ1) (by decide) (by simp [zok]) rfl (Nat.le_of_ble_eq_true rfl) rfl hM1 hS1 hl (fun r M2 H2 locs2 hk2 hM2 hr2 hS2 => ?_)
  obtain ⟨rfl, hJ2⟩ := hk2
  refine lv_icmp_eq (tgt := 1654) hx hb (show decode cL_law 338 = .ok (.if_icmp .eq 1316, 3) by decide +kernel) (by decide) (fun _ => kk _ _ _ _ hJ2 hM2 hS2) (fun z => absurd rfl z)
set_option maxHeartbeats 4000000 in
theorem lc_named {G : zG} {X : zX} {Q : State → Prop} {kc ks : Nat} (h : zC G X YL) {b L i q3 : Nat} {xs : Nat → Int32} {A : aA} {M : zM} {H : Heap} {locs : List Loc} {arr : Array Slot} (hX : va_X b L xs X.2.2.1 X.2.2.1.heap) (hbl : b < X.2.2.1.heap.size) (hbA : ¬ zA G b) (hL : L ≤ 3072) (hi : i + 5 < L) (hroom : kc ≤ room_1.cells ∧ ks ≤ room_1.slots) (hl : lv_has arr 7 (lawV b (G.2.2.2.2 11 0) (G.2.2.2.2 12 0) q3 (nI i))) (hJ : JJ A M) (hM : zRep G M H) (hS : va_S (zA G) X.2.2.1.heap H locs) (kk : ∀ (A' : aA) (M' : zM) (H' : Heap) (locs' : List Loc), JJ A' M' → zRep G M' H' → va_S (zA G) X.2.2.1.heap H' locs' → zWL G X YL kc ks H' locs' Q (zFr X 1654 arr [])) : zWL G X YL kc ks H locs Q (zFr X 343 arr []) := by
  obtain ⟨hx, hb, -⟩ := id h
  refine lv_aload_n hx hb (show decode cL_law 343 = .ok (.aload_n 1, 1) by decide +kernel) rfl (lv_at hl 1 rfl) ?_
  refine l_scr (pc := 344) h hX hbl hbA hS hl hL (c := 1) (by omega) (n := 1) rfl (by decide +kernel) (by decide +kernel) (by decide +kernel) (by decide +kernel) (by decide +kernel) ?_
  refine l_scr (pc := 350) h hX hbl hbA hS hl hL (c := 2) (by omega) (n := 2) rfl (by decide +kernel) (by decide +kernel) (by decide +kernel) (by decide +kernel) (by decide +kernel) ?_
  refine l_callV (pc := 356) h zcX11_named clX11 rfl mdX11_named ⟨rfl, rfl, by decide, by decide⟩ ⟨wl_888, wl_889, wl_890, wl_123, wl_891⟩ (by decide +kernel) hroom (k := 11) (i := 0) (as := [.inl (xs (i + 1)), .inl (xs (i + 2))]) (rs := []) (kC_named hJ) (by decide) (by simp [zok]) rfl (Nat.le_of_ble_eq_true rfl) rfl hM hS hl (fun r M1 H1 locs1 hk1 hM1 hr1 hS1 => ?_)
  obtain ⟨rfl, hJ1⟩ := hk1
  refine lv_aload_n hx hb (show decode cL_law 359 = .ok (.aload_n 2, 1) by decide +kernel) rfl (lv_at hl 2 rfl) ?_
  refine l_scr (pc := 360) h hX hbl hbA hS1 hl hL (c := 1) (by omega) (n := 1) rfl (by decide +kernel) (by decide +kernel) (by decide +kernel) (by decide +kernel) (by decide +kernel) ?_
  refine l_scr (pc := 366) h hX hbl hbA hS1 hl hL (c := 2) (by omega) (n := 2) rfl (by decide +kernel) (by decide +kernel) (by decide +kernel) (by decide +kernel) (by decide +kernel) ?_
  refine l_callV (pc := 372) h zcX12_named clX12 rfl mdX12_named ⟨rfl, rfl, by decide, by decide⟩ ⟨wl_1800, wl_1801, wl_1802, wl_139, wl_1803⟩ (by decide +kernel) hroom (k := 12) (i := 0) (as := [.inl (xs (i + 1)), .inl (xs (i + 2))]) (rs := _) (kR_named hJ1) (by decide) (by simp [zok]) rfl (Nat.le_of_ble_eq_true rfl) rfl hM1 hS1 hl (fun r M2 H2 locs2 hk2 hM2 hr2 hS2 => ?_)
  obtain ⟨rfl, hJ2⟩ := hk2
  refine lv_icmp_eq (tgt := 1654) hx hb (show decode cL_law 375 = .ok (.if_icmp .eq 1279, 3) by decide +kernel) (by decide) (fun _ => kk _ _ _ _ hJ2 hM2 hS2) (fun z => absurd rfl z)
set_option maxHeartbeats 4000000 in
theorem lc_hand {G : zG} {X : zX} {Q : State → Prop} {kc ks : Nat} (h : zC G X YL) {b L i q3 : Nat} {xs : Nat → Int32} {A : aA} {M : zM} {H : Heap} {locs : List Loc} {arr : Array Slot} (hX : va_X b L xs X.2.2.1 X.2.2.1.heap) (hbl : b < X.2.2.1.heap.size) (hbA : ¬ zA G b) (hL : L ≤ 3072) (hi : i + 5 < L) (hroom : kc ≤ room_1.cells ∧ ks ≤ room_1.slots) (hl : lv_has arr 7 (lawV b (G.2.2.2.2 11 0) (G.2.2.2.2 12 0) q3 (nI i))) (hJ : JJ A M) (hM : zRep G M H) (hS : va_S (zA G) X.2.2.1.heap H locs) (kk : ∀ (A' : aA) (M' : zM) (H' : Heap) (locs' : List Loc), JJ A' M' → zRep G M' H' → va_S (zA G) X.2.2.1.heap H' locs' → zWL G X YL kc ks H' locs' Q (zFr X 1654 arr [])) : zWL G X YL kc ks H locs Q (zFr X 448 arr []) := by
  obtain ⟨hx, hb, -⟩ := id h
  refine lv_aload_n hx hb (show decode cL_law 448 = .ok (.aload_n 1, 1) by decide +kernel) rfl (lv_at hl 1 rfl) ?_
  refine l_scr (pc := 449) h hX hbl hbA hS hl hL (c := 1) (by omega) (n := 1) rfl (by decide +kernel) (by decide +kernel) (by decide +kernel) (by decide +kernel) (by decide +kernel) ?_
  refine l_scr (pc := 455) h hX hbl hbA hS hl hL (c := 2) (by omega) (n := 2) rfl (by decide +kernel) (by decide +kernel) (by decide +kernel) (by decide +kernel) (by decide +kernel) ?_
  refine l_callV (pc := 461) h zcX11_hand clX11 rfl mdX11_hand ⟨rfl, rfl, by decide, by decide⟩ ⟨wl_894, wl_895, wl_896, wl_123, wl_897⟩ (by decide +kernel) hroom (k := 11) (i := 0) (as := [.inl (xs (i + 1)), .inl (xs (i + 2))]) (rs := []) (kC_hand hJ) (by decide) (by simp [zok]) rfl (Nat.le_of_ble_eq_true rfl) rfl hM hS hl (fun r M1 H1 locs1 hk1 hM1 hr1 hS1 => ?_)
  obtain ⟨rfl, hJ1⟩ := hk1
  refine lv_aload_n hx hb (show decode cL_law 464 = .ok (.aload_n 2, 1) by decide +kernel) rfl (lv_at hl 2 rfl) ?_
  refine l_scr (pc := 465) h hX hbl hbA hS1 hl hL (c := 1) (by omega) (n := 1) rfl (by decide +kernel) (by decide +kernel) (by decide +kernel) (by decide +kernel) (by decide +kernel) ?_
  refine l_scr (pc := 471) h hX hbl hbA hS1 hl hL (c := 2) (by omega) (n := 2) rfl (by decide +kernel) (by decide +kernel) (by decide +kernel) (by decide +kernel) (by decide +kernel) ?_
  refine l_callV (pc := 477) h zcX12_hand clX12 rfl mdX12_hand ⟨rfl, rfl, by decide, by decide⟩ ⟨wl_1820, wl_1821, wl_1822, wl_139, wl_1823⟩ (by decide +kernel) hroom (k := 12) (i := 0) (as := [.inl (xs (i + 1)), .inl (xs (i + 2))]) (rs := _) (kR_hand hJ1) (by decide) (by simp [zok]) rfl (Nat.le_of_ble_eq_true rfl) rfl hM1 hS1 hl (fun r M2 H2 locs2 hk2 hM2 hr2 hS2 => ?_)
  obtain ⟨rfl, hJ2⟩ := hk2
  refine lv_icmp_eq (tgt := 1654) hx hb (show decode cL_law 480 = .ok (.if_icmp .eq 1174, 3) by decide +kernel) (by decide) (fun _ => kk _ _ _ _ hJ2 hM2 hS2) (fun z => absurd rfl z)
set_option maxHeartbeats 4000000 in
theorem lc_wood {G : zG} {X : zX} {Q : State → Prop} {kc ks : Nat} (h : zC G X YL) {b L i q3 : Nat} {xs : Nat → Int32} {A : aA} {M : zM} {H : Heap} {locs : List Loc} {arr : Array Slot} (hX : va_X b L xs X.2.2.1 X.2.2.1.heap) (hbl : b < X.2.2.1.heap.size) (hbA : ¬ zA G b) (hL : L ≤ 3072) (hi : i + 5 < L) (hroom : kc ≤ room_1.cells ∧ ks ≤ room_1.slots) (hl : lv_has arr 7 (lawV b (G.2.2.2.2 11 0) (G.2.2.2.2 12 0) q3 (nI i))) (hJ : JJ A M) (hM : zRep G M H) (hS : va_S (zA G) X.2.2.1.heap H locs) (kk : ∀ (A' : aA) (M' : zM) (H' : Heap) (locs' : List Loc), JJ A' M' → zRep G M' H' → va_S (zA G) X.2.2.1.heap H' locs' → zWL G X YL kc ks H' locs' Q (zFr X 1654 arr [])) : zWL G X YL kc ks H locs Q (zFr X 485 arr []) := by
  obtain ⟨hx, hb, -⟩ := id h
  refine lv_aload_n hx hb (show decode cL_law 485 = .ok (.aload_n 1, 1) by decide +kernel) rfl (lv_at hl 1 rfl) ?_
  refine l_scr (pc := 486) h hX hbl hbA hS hl hL (c := 1) (by omega) (n := 1) rfl (by decide +kernel) (by decide +kernel) (by decide +kernel) (by decide +kernel) (by decide +kernel) ?_
  refine l_scr (pc := 492) h hX hbl hbA hS hl hL (c := 2) (by omega) (n := 2) rfl (by decide +kernel) (by decide +kernel) (by decide +kernel) (by decide +kernel) (by decide +kernel) ?_
  refine l_callV (pc := 498) h zcX11_wood clX11 rfl mdX11_wood ⟨rfl, rfl, by decide, by decide⟩ ⟨wl_909, wl_910, wl_911, wl_123, wl_912⟩ (by decide +kernel) hroom (k := 11) (i := 0) (as := [.inl (xs (i + 1)), .inl (xs (i + 2))]) (rs := []) (kC_wood hJ) (by decide) (by simp [zok]) rfl (Nat.le_of_ble_eq_true rfl) rfl hM hS hl (fun r M1 H1 locs1 hk1 hM1 hr1 hS1 => ?_)
  obtain ⟨rfl, hJ1⟩ := hk1
  refine lv_aload_n hx hb (show decode cL_law 501 = .ok (.aload_n 2, 1) by decide +kernel) rfl (lv_at hl 2 rfl) ?_
  refine l_scr (pc := 502) h hX hbl hbA hS1 hl hL (c := 1) (by omega) (n := 1) rfl (by decide +kernel) (by decide +kernel) (by decide +kernel) (by decide +kernel) (by decide +kernel) ?_
  refine l_scr (pc := 508) h hX hbl hbA hS1 hl hL (c := 2) (by omega) (n := 2) rfl (by decide +kernel) (by decide +kernel) (by decide +kernel) (by decide +kernel) (by decide +kernel) ?_
  refine l_callV (pc := 514) h zcX12_wood clX12 rfl mdX12_wood ⟨rfl, rfl, by decide, by decide⟩ ⟨wl_1828, wl_1829, wl_1830, wl_139, wl_1831⟩ (by decide +kernel) hroom (k := 12) (i := 0) (as := [.inl (xs (i + 1)), .inl (xs (i + 2))]) (rs := _) (kR_wood hJ1) (by decide) (by simp [zok]) rfl (Nat.le_of_ble_eq_true rfl) rfl hM1 hS1 hl (fun r M2 H2 locs2 hk2 hM2 hr2 hS2 => ?_)
  obtain ⟨rfl, hJ2⟩ := hk2
  refine lv_icmp_eq (tgt := 1654) hx hb (show decode cL_law 517 = .ok (.if_icmp .eq 1137, 3) by decide +kernel) (by decide) (fun _ => kk _ _ _ _ hJ2 hM2 hS2) (fun z => absurd rfl z)
set_option maxHeartbeats 4000000 in
theorem lc_law {G : zG} {X : zX} {Q : State → Prop} {kc ks : Nat} (h : zC G X YL) {b L i q3 : Nat} {xs : Nat → Int32} {A : aA} {M : zM} {H : Heap} {locs : List Loc} {arr : Array Slot} (hX : va_X b L xs X.2.2.1 X.2.2.1.heap) (hbl : b < X.2.2.1.heap.size) (hbA : ¬ zA G b) (hL : L ≤ 3072) (hi : i + 5 < L) (hroom : kc ≤ room_1.cells ∧ ks ≤ room_1.slots) (hl : lv_has arr 7 (lawV b (G.2.2.2.2 11 0) (G.2.2.2.2 12 0) q3 (nI i))) (hJ : JJ A M) (hM : zRep G M H) (hS : va_S (zA G) X.2.2.1.heap H locs) (kk : ∀ (A' : aA) (M' : zM) (H' : Heap) (locs' : List Loc), JJ A' M' → zRep G M' H' → va_S (zA G) X.2.2.1.heap H' locs' → zWL G X YL kc ks H' locs' Q (zFr X 1654 arr [])) : zWL G X YL kc ks H locs Q (zFr X 522 arr []) := by
  obtain ⟨hx, hb, -⟩ := id h
  refine lv_aload_n hx hb (show decode cL_law 522 = .ok (.aload_n 1, 1) by decide +kernel) rfl (lv_at hl 1 rfl) ?_
  refine l_scr (pc := 523) h hX hbl hbA hS hl hL (c := 1) (by omega) (n := 1) rfl (by decide +kernel) (by decide +kernel) (by decide +kernel) (by decide +kernel) (by decide +kernel) ?_
  refine l_scr (pc := 529) h hX hbl hbA hS hl hL (c := 2) (by omega) (n := 2) rfl (by decide +kernel) (by decide +kernel) (by decide +kernel) (by decide +kernel) (by decide +kernel) ?_
  refine l_scr (pc := 535) h hX hbl hbA hS hl hL (c := 3) (by omega) (n := 3) rfl (by decide +kernel) (by decide +kernel) (by decide +kernel) (by decide +kernel) (by decide +kernel) ?_
  refine l_scr (pc := 541) h hX hbl hbA hS hl hL (c := 4) (by omega) (n := 4) rfl (by decide +kernel) (by decide +kernel) (by decide +kernel) (by decide +kernel) (by decide +kernel) ?_
  refine l_callV (pc := 547) h zcX11_law clX11 rfl mdX11_law ⟨rfl, rfl, by decide, by decide⟩ ⟨wl_931, wl_932, wl_933, wl_123, wl_934⟩ (by decide +kernel) hroom (k := 11) (i := 0) (as := [.inl (xs (i + 1)), .inl (xs (i + 2)), .inl (xs (i + 3)), .inl (xs (i + 4))]) (rs := []) (kC_law hJ) (by decide) (by simp [zok]) rfl (Nat.le_of_ble_eq_true rfl) rfl hM hS hl (fun r M1 H1 locs1 hk1 hM1 hr1 hS1 => ?_)
  obtain ⟨rfl, hJ1⟩ := hk1
  refine lv_aload_n hx hb (show decode cL_law 550 = .ok (.aload_n 2, 1) by decide +kernel) rfl (lv_at hl 2 rfl) ?_
  refine l_scr (pc := 551) h hX hbl hbA hS1 hl hL (c := 1) (by omega) (n := 1) rfl (by decide +kernel) (by decide +kernel) (by decide +kernel) (by decide +kernel) (by decide +kernel) ?_
  refine l_scr (pc := 557) h hX hbl hbA hS1 hl hL (c := 2) (by omega) (n := 2) rfl (by decide +kernel) (by decide +kernel) (by decide +kernel) (by decide +kernel) (by decide +kernel) ?_
  refine l_scr (pc := 563) h hX hbl hbA hS1 hl hL (c := 3) (by omega) (n := 3) rfl (by decide +kernel) (by decide +kernel) (by decide +kernel) (by decide +kernel) (by decide +kernel) ?_
  refine l_scr (pc := 569) h hX hbl hbA hS1 hl hL (c := 4) (by omega) (n := 4) rfl (by decide +kernel) (by decide +kernel) (by decide +kernel) (by decide +kernel) (by decide +kernel) ?_
  refine l_callV (pc := 575) h zcX12_law clX12 rfl mdX12_law ⟨rfl, rfl, by decide, by decide⟩ ⟨wl_1836, wl_1837, wl_1838, wl_139, wl_1839⟩ (by decide +kernel) hroom (k := 12) (i := 0) (as := [.inl (xs (i + 1)), .inl (xs (i + 2)), .inl (xs (i + 3)), .inl (xs (i + 4))]) (rs := _) (kR_law hJ1) (by decide) (by simp [zok]) rfl (Nat.le_of_ble_eq_true rfl) rfl hM1 hS1 hl (fun r M2 H2 locs2 hk2 hM2 hr2 hS2 => ?_)
  obtain ⟨rfl, hJ2⟩ := hk2
  refine W.lcmp hx hb (show decode cL_law 578 = .ok (.lcmp, 1) by decide +kernel) ?_
  refine lv_if_eq (tgt := 1654) hx hb (show decode cL_law 579 = .ok (.ifCond .eq 1075, 3) by decide +kernel) (by decide) (fun _ => kk _ _ _ _ hJ2 hM2 hS2) (fun z => absurd (lcm0 _) z)
set_option maxHeartbeats 4000000 in
theorem lc_warm {G : zG} {X : zX} {Q : State → Prop} {kc ks : Nat} (h : zC G X YL) {b L i q3 : Nat} {xs : Nat → Int32} {A : aA} {M : zM} {H : Heap} {locs : List Loc} {arr : Array Slot} (hX : va_X b L xs X.2.2.1 X.2.2.1.heap) (hbl : b < X.2.2.1.heap.size) (hbA : ¬ zA G b) (hL : L ≤ 3072) (hi : i + 5 < L) (hroom : kc ≤ room_1.cells ∧ ks ≤ room_1.slots) (hl : lv_has arr 7 (lawV b (G.2.2.2.2 11 0) (G.2.2.2.2 12 0) q3 (nI i))) (hJ : JJ A M) (hM : zRep G M H) (hS : va_S (zA G) X.2.2.1.heap H locs) (kk : ∀ (A' : aA) (M' : zM) (H' : Heap) (locs' : List Loc), JJ A' M' → zRep G M' H' → va_S (zA G) X.2.2.1.heap H' locs' → zWL G X YL kc ks H' locs' Q (zFr X 1654 arr [])) : zWL G X YL kc ks H locs Q (zFr X 584 arr []) := by
  obtain ⟨hx, hb, -⟩ := id h
  refine lv_aload_n hx hb (show decode cL_law 584 = .ok (.aload_n 1, 1) by decide +kernel) rfl (lv_at hl 1 rfl) ?_
  refine l_scr (pc := 585) h hX hbl hbA hS hl hL (c := 1) (by omega) (n := 1) rfl (by decide +kernel) (by decide +kernel) (by decide +kernel) (by decide +kernel) (by decide +kernel) ?_
  refine l_scr (pc := 591) h hX hbl hbA hS hl hL (c := 2) (by omega) (n := 2) rfl (by decide +kernel) (by decide +kernel) (by decide +kernel) (by decide +kernel) (by decide +kernel) ?_
  refine l_callV (pc := 597) h zcX11_warm clX11 rfl mdX11_warm ⟨rfl, rfl, by decide, by decide⟩ ⟨wl_957, wl_958, wl_959, wl_123, wl_960⟩ (by decide +kernel) hroom (k := 11) (i := 0) (as := [.inl (xs (i + 1)), .inl (xs (i + 2))]) (rs := []) (kC_warm hJ) (by decide) (by simp [zok]) rfl (Nat.le_of_ble_eq_true rfl) rfl hM hS hl (fun r M1 H1 locs1 hk1 hM1 hr1 hS1 => ?_)
  obtain ⟨rfl, hJ1⟩ := hk1
  refine lv_aload_n hx hb (show decode cL_law 600 = .ok (.aload_n 2, 1) by decide +kernel) rfl (lv_at hl 2 rfl) ?_
  refine l_scr (pc := 601) h hX hbl hbA hS1 hl hL (c := 1) (by omega) (n := 1) rfl (by decide +kernel) (by decide +kernel) (by decide +kernel) (by decide +kernel) (by decide +kernel) ?_
  refine l_scr (pc := 607) h hX hbl hbA hS1 hl hL (c := 2) (by omega) (n := 2) rfl (by decide +kernel) (by decide +kernel) (by decide +kernel) (by decide +kernel) (by decide +kernel) ?_
  refine l_callV (pc := 613) h zcX12_warm clX12 rfl mdX12_warm ⟨rfl, rfl, by decide, by decide⟩ ⟨wl_1878, wl_1879, wl_1880, wl_139, wl_1881⟩ (by decide +kernel) hroom (k := 12) (i := 0) (as := [.inl (xs (i + 1)), .inl (xs (i + 2))]) (rs := _) (kR_warm hJ1) (by decide) (by simp [zok]) rfl (Nat.le_of_ble_eq_true rfl) rfl hM1 hS1 hl (fun r M2 H2 locs2 hk2 hM2 hr2 hS2 => ?_)
  obtain ⟨rfl, hJ2⟩ := hk2
  refine lv_icmp_eq (tgt := 1654) hx hb (show decode cL_law 616 = .ok (.if_icmp .eq 1038, 3) by decide +kernel) (by decide) (fun _ => kk _ _ _ _ hJ2 hM2 hS2) (fun z => absurd rfl z)
set_option maxHeartbeats 4000000 in
theorem lc_order {G : zG} {X : zX} {Q : State → Prop} {kc ks : Nat} (h : zC G X YL) {b L i q3 : Nat} {xs : Nat → Int32} {A : aA} {M : zM} {H : Heap} {locs : List Loc} {arr : Array Slot} (hX : va_X b L xs X.2.2.1 X.2.2.1.heap) (hbl : b < X.2.2.1.heap.size) (hbA : ¬ zA G b) (hL : L ≤ 3072) (hi : i + 5 < L) (hroom : kc ≤ room_1.cells ∧ ks ≤ room_1.slots) (hl : lv_has arr 7 (lawV b (G.2.2.2.2 11 0) (G.2.2.2.2 12 0) q3 (nI i))) (hJ : JJ A M) (hM : zRep G M H) (hS : va_S (zA G) X.2.2.1.heap H locs) (kk : ∀ (A' : aA) (M' : zM) (H' : Heap) (locs' : List Loc), JJ A' M' → zRep G M' H' → va_S (zA G) X.2.2.1.heap H' locs' → zWL G X YL kc ks H' locs' Q (zFr X 1654 arr [])) : zWL G X YL kc ks H locs Q (zFr X 621 arr []) := by
  obtain ⟨hx, hb, -⟩ := id h
  refine lv_aload_n hx hb (show decode cL_law 621 = .ok (.aload_n 1, 1) by decide +kernel) rfl (lv_at hl 1 rfl) ?_
  refine l_scr (pc := 622) h hX hbl hbA hS hl hL (c := 1) (by omega) (n := 1) rfl (by decide +kernel) (by decide +kernel) (by decide +kernel) (by decide +kernel) (by decide +kernel) ?_
  refine l_scr (pc := 628) h hX hbl hbA hS hl hL (c := 2) (by omega) (n := 2) rfl (by decide +kernel) (by decide +kernel) (by decide +kernel) (by decide +kernel) (by decide +kernel) ?_
  refine l_scr (pc := 634) h hX hbl hbA hS hl hL (c := 3) (by omega) (n := 3) rfl (by decide +kernel) (by decide +kernel) (by decide +kernel) (by decide +kernel) (by decide +kernel) ?_
  refine l_callV (pc := 640) h zcX11_order clX11 rfl mdX11_order ⟨rfl, rfl, by decide, by decide⟩ ⟨wl_968, wl_969, wl_970, wl_123, wl_971⟩ (by decide +kernel) hroom (k := 11) (i := 0) (as := [.inl (xs (i + 1)), .inl (xs (i + 2)), .inl (xs (i + 3))]) (rs := []) (kC_order hJ) (by decide) (by simp [zok]) rfl (Nat.le_of_ble_eq_true rfl) rfl hM hS hl (fun r M1 H1 locs1 hk1 hM1 hr1 hS1 => ?_)
  obtain ⟨rfl, hJ1⟩ := hk1
  refine lv_aload_n hx hb (show decode cL_law 643 = .ok (.aload_n 2, 1) by decide +kernel) rfl (lv_at hl 2 rfl) ?_
  refine l_scr (pc := 644) h hX hbl hbA hS1 hl hL (c := 1) (by omega) (n := 1) rfl (by decide +kernel) (by decide +kernel) (by decide +kernel) (by decide +kernel) (by decide +kernel) ?_
  refine l_scr (pc := 650) h hX hbl hbA hS1 hl hL (c := 2) (by omega) (n := 2) rfl (by decide +kernel) (by decide +kernel) (by decide +kernel) (by decide +kernel) (by decide +kernel) ?_
  refine l_scr (pc := 656) h hX hbl hbA hS1 hl hL (c := 3) (by omega) (n := 3) rfl (by decide +kernel) (by decide +kernel) (by decide +kernel) (by decide +kernel) (by decide +kernel) ?_
  refine l_callV (pc := 662) h zcX12_order clX12 rfl mdX12_order ⟨rfl, rfl, by decide, by decide⟩ ⟨wl_1890, wl_1891, wl_1892, wl_139, wl_1893⟩ (by decide +kernel) hroom (k := 12) (i := 0) (as := [.inl (xs (i + 1)), .inl (xs (i + 2)), .inl (xs (i + 3))]) (rs := _) (kR_order hJ1) (by decide) (by simp [zok]) rfl (Nat.le_of_ble_eq_true rfl) rfl hM1 hS1 hl (fun r M2 H2 locs2 hk2 hM2 hr2 hS2 => ?_)
  obtain ⟨rfl, hJ2⟩ := hk2
  refine lv_icmp_eq (tgt := 1654) hx hb (show decode cL_law 665 = .ok (.if_icmp .eq 989, 3) by decide +kernel) (by decide) (fun _ => kk _ _ _ _ hJ2 hM2 hS2) (fun z => absurd rfl z)
set_option maxHeartbeats 4000000 in
theorem lc_sell {G : zG} {X : zX} {Q : State → Prop} {kc ks : Nat} (h : zC G X YL) {b L i q3 : Nat} {xs : Nat → Int32} {A : aA} {M : zM} {H : Heap} {locs : List Loc} {arr : Array Slot} (hX : va_X b L xs X.2.2.1 X.2.2.1.heap) (hbl : b < X.2.2.1.heap.size) (hbA : ¬ zA G b) (hL : L ≤ 3072) (hi : i + 5 < L) (hroom : kc ≤ room_1.cells ∧ ks ≤ room_1.slots) (hl : lv_has arr 7 (lawV b (G.2.2.2.2 11 0) (G.2.2.2.2 12 0) q3 (nI i))) (hJ : JJ A M) (hM : zRep G M H) (hS : va_S (zA G) X.2.2.1.heap H locs) (kk : ∀ (A' : aA) (M' : zM) (H' : Heap) (locs' : List Loc), JJ A' M' → zRep G M' H' → va_S (zA G) X.2.2.1.heap H' locs' → zWL G X YL kc ks H' locs' Q (zFr X 1654 arr [])) : zWL G X YL kc ks H locs Q (zFr X 670 arr []) := by
  obtain ⟨hx, hb, -⟩ := id h
  refine lv_aload_n hx hb (show decode cL_law 670 = .ok (.aload_n 1, 1) by decide +kernel) rfl (lv_at hl 1 rfl) ?_
  refine l_scr (pc := 671) h hX hbl hbA hS hl hL (c := 1) (by omega) (n := 1) rfl (by decide +kernel) (by decide +kernel) (by decide +kernel) (by decide +kernel) (by decide +kernel) ?_
  refine l_scr (pc := 677) h hX hbl hbA hS hl hL (c := 2) (by omega) (n := 2) rfl (by decide +kernel) (by decide +kernel) (by decide +kernel) (by decide +kernel) (by decide +kernel) ?_
  refine l_callV (pc := 683) h zcX11_sell clX11 rfl mdX11_sell ⟨rfl, rfl, by decide, by decide⟩ ⟨wl_976, wl_977, wl_978, wl_123, wl_979⟩ (by decide +kernel) hroom (k := 11) (i := 0) (as := [.inl (xs (i + 1)), .inl (xs (i + 2))]) (rs := []) (kC_sell hJ) (by decide) (by simp [zok]) rfl (Nat.le_of_ble_eq_true rfl) rfl hM hS hl (fun r M1 H1 locs1 hk1 hM1 hr1 hS1 => ?_)
  obtain ⟨rfl, hJ1⟩ := hk1
  refine lv_aload_n hx hb (show decode cL_law 686 = .ok (.aload_n 2, 1) by decide +kernel) rfl (lv_at hl 2 rfl) ?_
  refine l_scr (pc := 687) h hX hbl hbA hS1 hl hL (c := 1) (by omega) (n := 1) rfl (by decide +kernel) (by decide +kernel) (by decide +kernel) (by decide +kernel) (by decide +kernel) ?_
  refine l_scr (pc := 693) h hX hbl hbA hS1 hl hL (c := 2) (by omega) (n := 2) rfl (by decide +kernel) (by decide +kernel) (by decide +kernel) (by decide +kernel) (by decide +kernel) ?_
  refine l_callV (pc := 699) h zcX12_sell clX12 rfl mdX12_sell ⟨rfl, rfl, by decide, by decide⟩ ⟨wl_1894, wl_1895, wl_1896, wl_139, wl_1897⟩ (by decide +kernel) hroom (k := 12) (i := 0) (as := [.inl (xs (i + 1)), .inl (xs (i + 2))]) (rs := _) (kR_sell hJ1) (by decide) (by simp [zok]) rfl (Nat.le_of_ble_eq_true rfl) rfl hM1 hS1 hl (fun r M2 H2 locs2 hk2 hM2 hr2 hS2 => ?_)
  obtain ⟨rfl, hJ2⟩ := hk2
  refine lv_icmp_eq (tgt := 1654) hx hb (show decode cL_law 702 = .ok (.if_icmp .eq 952, 3) by decide +kernel) (by decide) (fun _ => kk _ _ _ _ hJ2 hM2 hS2) (fun z => absurd rfl z)
set_option maxHeartbeats 4000000 in
theorem lc_plane {G : zG} {X : zX} {Q : State → Prop} {kc ks : Nat} (h : zC G X YL) {b L i q3 : Nat} {xs : Nat → Int32} {A : aA} {M : zM} {H : Heap} {locs : List Loc} {arr : Array Slot} (hX : va_X b L xs X.2.2.1 X.2.2.1.heap) (hbl : b < X.2.2.1.heap.size) (hbA : ¬ zA G b) (hL : L ≤ 3072) (hi : i + 5 < L) (hroom : kc ≤ room_1.cells ∧ ks ≤ room_1.slots) (hl : lv_has arr 7 (lawV b (G.2.2.2.2 11 0) (G.2.2.2.2 12 0) q3 (nI i))) (hJ : JJ A M) (hM : zRep G M H) (hS : va_S (zA G) X.2.2.1.heap H locs) (kk : ∀ (A' : aA) (M' : zM) (H' : Heap) (locs' : List Loc), JJ A' M' → zRep G M' H' → va_S (zA G) X.2.2.1.heap H' locs' → zWL G X YL kc ks H' locs' Q (zFr X 1654 arr [])) : zWL G X YL kc ks H locs Q (zFr X 707 arr []) := by
  obtain ⟨hx, hb, -⟩ := id h
  refine lv_aload_n hx hb (show decode cL_law 707 = .ok (.aload_n 1, 1) by decide +kernel) rfl (lv_at hl 1 rfl) ?_
  refine l_scr (pc := 708) h hX hbl hbA hS hl hL (c := 1) (by omega) (n := 1) rfl (by decide +kernel) (by decide +kernel) (by decide +kernel) (by decide +kernel) (by decide +kernel) ?_
  refine l_callV (pc := 714) h zcX11_plane clX11 rfl mdX11_plane ⟨rfl, rfl, by decide, by decide⟩ ⟨wl_980, wl_981, wl_982, wl_123, wl_983⟩ (by decide +kernel) hroom (k := 11) (i := 0) (as := [.inl (xs (i + 1))]) (rs := []) (kC_plane hJ) (by decide) (by simp [zok]) rfl (Nat.le_of_ble_eq_true rfl) rfl hM hS hl (fun r M1 H1 locs1 hk1 hM1 hr1 hS1 => ?_)
  obtain ⟨rfl, hJ1⟩ := hk1
  refine lv_aload_n hx hb (show decode cL_law 717 = .ok (.aload_n 2, 1) by decide +kernel) rfl (lv_at hl 2 rfl) ?_
  refine l_scr (pc := 718) h hX hbl hbA hS1 hl hL (c := 1) (by omega) (n := 1) rfl (by decide +kernel) (by decide +kernel) (by decide +kernel) (by decide +kernel) (by decide +kernel) ?_
  refine l_callV (pc := 724) h zcX12_plane clX12 rfl mdX12_plane ⟨rfl, rfl, by decide, by decide⟩ ⟨wl_1898, wl_1899, wl_1900, wl_139, wl_1901⟩ (by decide +kernel) hroom (k := 12) (i := 0) (as := [.inl (xs (i + 1))]) (rs := _) (kR_plane hJ1) (by decide) (by simp [zok]) rfl (Nat.le_of_ble_eq_true rfl) rfl hM1 hS1 hl (fun r M2 H2 locs2 hk2 hM2 hr2 hS2 => ?_)
  obtain ⟨rfl, hJ2⟩ := hk2
  refine lv_icmp_eq (tgt := 1654) hx hb (show decode cL_law 727 = .ok (.if_icmp .eq 927, 3) by decide +kernel) (by decide) (fun _ => kk _ _ _ _ hJ2 hM2 hS2) (fun z => absurd rfl z)
set_option maxHeartbeats 4000000 in
theorem lc_days {G : zG} {X : zX} {Q : State → Prop} {kc ks : Nat} (h : zC G X YL) {b L i q3 : Nat} {xs : Nat → Int32} {A : aA} {M : zM} {H : Heap} {locs : List Loc} {arr : Array Slot} (hX : va_X b L xs X.2.2.1 X.2.2.1.heap) (hbl : b < X.2.2.1.heap.size) (hbA : ¬ zA G b) (hL : L ≤ 3072) (hi : i + 5 < L) (hroom : kc ≤ room_1.cells ∧ ks ≤ room_1.slots) (hl : lv_has arr 7 (lawV b (G.2.2.2.2 11 0) (G.2.2.2.2 12 0) q3 (nI i))) (hJ : JJ A M) (hM : zRep G M H) (hS : va_S (zA G) X.2.2.1.heap H locs) (kk : ∀ (A' : aA) (M' : zM) (H' : Heap) (locs' : List Loc), JJ A' M' → zRep G M' H' → va_S (zA G) X.2.2.1.heap H' locs' → zWL G X YL kc ks H' locs' Q (zFr X 1654 arr [])) : zWL G X YL kc ks H locs Q (zFr X 732 arr []) := by
  obtain ⟨hx, hb, -⟩ := id h
  refine lv_aload_n hx hb (show decode cL_law 732 = .ok (.aload_n 1, 1) by decide +kernel) rfl (lv_at hl 1 rfl) ?_
  refine l_scr (pc := 733) h hX hbl hbA hS hl hL (c := 1) (by omega) (n := 1) rfl (by decide +kernel) (by decide +kernel) (by decide +kernel) (by decide +kernel) (by decide +kernel) ?_
  refine l_callV (pc := 739) h zcX11_days clX11 rfl mdX11_days ⟨rfl, rfl, by decide, by decide⟩ ⟨wl_984, wl_985, wl_986, wl_123, wl_987⟩ (by decide +kernel) hroom (k := 11) (i := 0) (as := [.inl (xs (i + 1))]) (rs := []) (kC_days hJ) (by decide) (by simp [zok]) rfl (Nat.le_of_ble_eq_true rfl) rfl hM hS hl (fun r M1 H1 locs1 hk1 hM1 hr1 hS1 => ?_)
  obtain ⟨rfl, hJ1⟩ := hk1
  refine lv_aload_n hx hb (show decode cL_law 742 = .ok (.aload_n 2, 1) by decide +kernel) rfl (lv_at hl 2 rfl) ?_
  refine l_scr (pc := 743) h hX hbl hbA hS1 hl hL (c := 1) (by omega) (n := 1) rfl (by decide +kernel) (by decide +kernel) (by decide +kernel) (by decide +kernel) (by decide +kernel) ?_
  refine l_callV (pc := 749) h zcX12_days clX12 rfl mdX12_days ⟨rfl, rfl, by decide, by decide⟩ ⟨wl_1902, wl_1903, wl_1904, wl_139, wl_1905⟩ (by decide +kernel) hroom (k := 12) (i := 0) (as := [.inl (xs (i + 1))]) (rs := _) (kR_days hJ1) (by decide) (by simp [zok]) rfl (Nat.le_of_ble_eq_true rfl) rfl hM1 hS1 hl (fun r M2 H2 locs2 hk2 hM2 hr2 hS2 => ?_)
  obtain ⟨rfl, hJ2⟩ := hk2
  refine lv_icmp_eq (tgt := 1654) hx hb (show decode cL_law 752 = .ok (.if_icmp .eq 902, 3) by decide +kernel) (by decide) (fun _ => kk _ _ _ _ hJ2 hM2 hS2) (fun z => absurd rfl z)
set_option maxHeartbeats 4000000 in
theorem lc_ahead {G : zG} {X : zX} {Q : State → Prop} {kc ks : Nat} (h : zC G X YL) {b L i q3 : Nat} {xs : Nat → Int32} {A : aA} {M : zM} {H : Heap} {locs : List Loc} {arr : Array Slot} (hX : va_X b L xs X.2.2.1 X.2.2.1.heap) (hbl : b < X.2.2.1.heap.size) (hbA : ¬ zA G b) (hL : L ≤ 3072) (hi : i + 5 < L) (hroom : kc ≤ room_1.cells ∧ ks ≤ room_1.slots) (hl : lv_has arr 7 (lawV b (G.2.2.2.2 11 0) (G.2.2.2.2 12 0) q3 (nI i))) (hJ : JJ A M) (hM : zRep G M H) (hS : va_S (zA G) X.2.2.1.heap H locs) (kk : ∀ (A' : aA) (M' : zM) (H' : Heap) (locs' : List Loc), JJ A' M' → zRep G M' H' → va_S (zA G) X.2.2.1.heap H' locs' → zWL G X YL kc ks H' locs' Q (zFr X 1654 arr [])) : zWL G X YL kc ks H locs Q (zFr X 757 arr []) := by
  obtain ⟨hx, hb, -⟩ := id h
  refine lv_aload_n hx hb (show decode cL_law 757 = .ok (.aload_n 1, 1) by decide +kernel) rfl (lv_at hl 1 rfl) ?_
  refine l_scr (pc := 758) h hX hbl hbA hS hl hL (c := 1) (by omega) (n := 1) rfl (by decide +kernel) (by decide +kernel) (by decide +kernel) (by decide +kernel) (by decide +kernel) ?_
  refine l_scr (pc := 764) h hX hbl hbA hS hl hL (c := 2) (by omega) (n := 2) rfl (by decide +kernel) (by decide +kernel) (by decide +kernel) (by decide +kernel) (by decide +kernel) ?_
  refine l_callV (pc := 770) h zcX11_ahead clX11 rfl mdX11_ahead ⟨rfl, rfl, by decide, by decide⟩ ⟨wl_1045, wl_1046, wl_1047, wl_123, wl_1048⟩ (by decide +kernel) hroom (k := 11) (i := 0) (as := [.inl (xs (i + 1)), .inl (xs (i + 2))]) (rs := []) (kC_ahead hJ) (by decide) (by simp [zok]) rfl (Nat.le_of_ble_eq_true rfl) rfl hM hS hl (fun r M1 H1 locs1 hk1 hM1 hr1 hS1 => ?_)
  obtain ⟨rfl, hJ1⟩ := hk1
  refine lv_aload_n hx hb (show decode cL_law 773 = .ok (.aload_n 2, 1) by decide +kernel) rfl (lv_at hl 2 rfl) ?_
  refine l_scr (pc := 774) h hX hbl hbA hS1 hl hL (c := 1) (by omega) (n := 1) rfl (by decide +kernel) (by decide +kernel) (by decide +kernel) (by decide +kernel) (by decide +kernel) ?_
  refine l_scr (pc := 780) h hX hbl hbA hS1 hl hL (c := 2) (by omega) (n := 2) rfl (by decide +kernel) (by decide +kernel) (by decide +kernel) (by decide +kernel) (by decide +kernel) ?_
  refine l_callV (pc := 786) h zcX12_ahead clX12 rfl mdX12_ahead ⟨rfl, rfl, by decide, by decide⟩ ⟨wl_1949, wl_1950, wl_1951, wl_139, wl_1952⟩ (by decide +kernel) hroom (k := 12) (i := 0) (as := [.inl (xs (i + 1)), .inl (xs (i + 2))]) (rs := _) (kR_ahead hJ1) (by decide) (by simp [zok]) rfl (Nat.le_of_ble_eq_true rfl) rfl hM1 hS1 hl (fun r M2 H2 locs2 hk2 hM2 hr2 hS2 => ?_)
  obtain ⟨rfl, hJ2⟩ := hk2
  refine lv_icmp_eq (tgt := 1654) hx hb (show decode cL_law 789 = .ok (.if_icmp .eq 865, 3) by decide +kernel) (by decide) (fun _ => kk _ _ _ _ hJ2 hM2 hS2) (fun z => absurd rfl z)
set_option maxHeartbeats 4000000 in
theorem lc_apart {G : zG} {X : zX} {Q : State → Prop} {kc ks : Nat} (h : zC G X YL) {b L i q3 : Nat} {xs : Nat → Int32} {A : aA} {M : zM} {H : Heap} {locs : List Loc} {arr : Array Slot} (hX : va_X b L xs X.2.2.1 X.2.2.1.heap) (hbl : b < X.2.2.1.heap.size) (hbA : ¬ zA G b) (hL : L ≤ 3072) (hi : i + 5 < L) (hroom : kc ≤ room_1.cells ∧ ks ≤ room_1.slots) (hl : lv_has arr 7 (lawV b (G.2.2.2.2 11 0) (G.2.2.2.2 12 0) q3 (nI i))) (hJ : JJ A M) (hM : zRep G M H) (hS : va_S (zA G) X.2.2.1.heap H locs) (kk : ∀ (A' : aA) (M' : zM) (H' : Heap) (locs' : List Loc), JJ A' M' → zRep G M' H' → va_S (zA G) X.2.2.1.heap H' locs' → zWL G X YL kc ks H' locs' Q (zFr X 1654 arr [])) : zWL G X YL kc ks H locs Q (zFr X 794 arr []) := by
  obtain ⟨hx, hb, -⟩ := id h
  refine lv_aload_n hx hb (show decode cL_law 794 = .ok (.aload_n 1, 1) by decide +kernel) rfl (lv_at hl 1 rfl) ?_
  refine l_scr (pc := 795) h hX hbl hbA hS hl hL (c := 1) (by omega) (n := 1) rfl (by decide +kernel) (by decide +kernel) (by decide +kernel) (by decide +kernel) (by decide +kernel) ?_
  refine l_scr (pc := 801) h hX hbl hbA hS hl hL (c := 2) (by omega) (n := 2) rfl (by decide +kernel) (by decide +kernel) (by decide +kernel) (by decide +kernel) (by decide +kernel) ?_
  refine l_callV (pc := 807) h zcX11_apart clX11 rfl mdX11_apart ⟨rfl, rfl, by decide, by decide⟩ ⟨wl_1062, wl_1063, wl_1064, wl_123, wl_1065⟩ (by decide +kernel) hroom (k := 11) (i := 0) (as := [.inl (xs (i + 1)), .inl (xs (i + 2))]) (rs := []) (kC_apart hJ) (by decide) (by simp [zok]) rfl (Nat.le_of_ble_eq_true rfl) rfl hM hS hl (fun r M1 H1 locs1 hk1 hM1 hr1 hS1 => ?_)
  obtain ⟨rfl, hJ1⟩ := hk1
  refine lv_aload_n hx hb (show decode cL_law 810 = .ok (.aload_n 2, 1) by decide +kernel) rfl (lv_at hl 2 rfl) ?_
  refine l_scr (pc := 811) h hX hbl hbA hS1 hl hL (c := 1) (by omega) (n := 1) rfl (by decide +kernel) (by decide +kernel) (by decide +kernel) (by decide +kernel) (by decide +kernel) ?_
  refine l_scr (pc := 817) h hX hbl hbA hS1 hl hL (c := 2) (by omega) (n := 2) rfl (by decide +kernel) (by decide +kernel) (by decide +kernel) (by decide +kernel) (by decide +kernel) ?_
  refine l_callV (pc := 823) h zcX12_apart clX12 rfl mdX12_apart ⟨rfl, rfl, by decide, by decide⟩ ⟨wl_1973, wl_1974, wl_1975, wl_139, wl_1976⟩ (by decide +kernel) hroom (k := 12) (i := 0) (as := [.inl (xs (i + 1)), .inl (xs (i + 2))]) (rs := _) (kR_apart hJ1) (by decide) (by simp [zok]) rfl (Nat.le_of_ble_eq_true rfl) rfl hM1 hS1 hl (fun r M2 H2 locs2 hk2 hM2 hr2 hS2 => ?_)
  obtain ⟨rfl, hJ2⟩ := hk2
  refine lv_icmp_eq (tgt := 1654) hx hb (show decode cL_law 826 = .ok (.if_icmp .eq 828, 3) by decide +kernel) (by decide) (fun _ => kk _ _ _ _ hJ2 hM2 hS2) (fun z => absurd rfl z)
set_option maxHeartbeats 4000000 in
theorem lc_nearest {G : zG} {X : zX} {Q : State → Prop} {kc ks : Nat} (h : zC G X YL) {b L i q3 : Nat} {xs : Nat → Int32} {A : aA} {M : zM} {H : Heap} {locs : List Loc} {arr : Array Slot} (hX : va_X b L xs X.2.2.1 X.2.2.1.heap) (hbl : b < X.2.2.1.heap.size) (hbA : ¬ zA G b) (hL : L ≤ 3072) (hi : i + 5 < L) (hroom : kc ≤ room_1.cells ∧ ks ≤ room_1.slots) (hl : lv_has arr 7 (lawV b (G.2.2.2.2 11 0) (G.2.2.2.2 12 0) q3 (nI i))) (hJ : JJ A M) (hM : zRep G M H) (hS : va_S (zA G) X.2.2.1.heap H locs) (kk : ∀ (A' : aA) (M' : zM) (H' : Heap) (locs' : List Loc), JJ A' M' → zRep G M' H' → va_S (zA G) X.2.2.1.heap H' locs' → zWL G X YL kc ks H' locs' Q (zFr X 1654 arr [])) : zWL G X YL kc ks H locs Q (zFr X 831 arr []) := by
  obtain ⟨hx, hb, -⟩ := id h
  refine lv_aload_n hx hb (show decode cL_law 831 = .ok (.aload_n 1, 1) by decide +kernel) rfl (lv_at hl 1 rfl) ?_
  refine l_scr (pc := 832) h hX hbl hbA hS hl hL (c := 1) (by omega) (n := 1) rfl (by decide +kernel) (by decide +kernel) (by decide +kernel) (by decide +kernel) (by decide +kernel) ?_
  refine l_callV (pc := 838) h zcX11_nearest clX11 rfl mdX11_nearest ⟨rfl, rfl, by decide, by decide⟩ ⟨wl_1067, wl_1068, wl_1069, wl_123, wl_1070⟩ (by decide +kernel) hroom (k := 11) (i := 0) (as := [.inl (xs (i + 1))]) (rs := []) (kC_nearest hJ) (by decide) (by simp [zok]) rfl (Nat.le_of_ble_eq_true rfl) rfl hM hS hl (fun r M1 H1 locs1 hk1 hM1 hr1 hS1 => ?_)
  obtain ⟨rfl, hJ1⟩ := hk1
  refine lv_aload_n hx hb (show decode cL_law 841 = .ok (.aload_n 2, 1) by decide +kernel) rfl (lv_at hl 2 rfl) ?_
  refine l_scr (pc := 842) h hX hbl hbA hS1 hl hL (c := 1) (by omega) (n := 1) rfl (by decide +kernel) (by decide +kernel) (by decide +kernel) (by decide +kernel) (by decide +kernel) ?_
  refine l_callV (pc := 848) h zcX12_nearest clX12 rfl mdX12_nearest ⟨rfl, rfl, by decide, by decide⟩ ⟨wl_1981, wl_1982, wl_1983, wl_139, wl_1984⟩ (by decide +kernel) hroom (k := 12) (i := 0) (as := [.inl (xs (i + 1))]) (rs := _) (kR_nearest hJ1) (by decide) (by simp [zok]) rfl (Nat.le_of_ble_eq_true rfl) rfl hM1 hS1 hl (fun r M2 H2 locs2 hk2 hM2 hr2 hS2 => ?_)
  obtain ⟨rfl, hJ2⟩ := hk2
  refine lv_icmp_eq (tgt := 1654) hx hb (show decode cL_law 851 = .ok (.if_icmp .eq 803, 3) by decide +kernel) (by decide) (fun _ => kk _ _ _ _ hJ2 hM2 hS2) (fun z => absurd rfl z)
set_option maxHeartbeats 4000000 in
theorem lc_anew {G : zG} {X : zX} {Q : State → Prop} {kc ks : Nat} (h : zC G X YL) {b L i q3 : Nat} {xs : Nat → Int32} {A : aA} {M : zM} {H : Heap} {locs : List Loc} {arr : Array Slot} (hX : va_X b L xs X.2.2.1 X.2.2.1.heap) (hbl : b < X.2.2.1.heap.size) (hbA : ¬ zA G b) (hL : L ≤ 3072) (hi : i + 5 < L) (hroom : kc ≤ room_1.cells ∧ ks ≤ room_1.slots) (hl : lv_has arr 7 (lawV b (G.2.2.2.2 11 0) (G.2.2.2.2 12 0) q3 (nI i))) (hJ : JJ A M) (hM : zRep G M H) (hS : va_S (zA G) X.2.2.1.heap H locs) (kk : ∀ (A' : aA) (M' : zM) (H' : Heap) (locs' : List Loc), JJ A' M' → zRep G M' H' → va_S (zA G) X.2.2.1.heap H' locs' → zWL G X YL kc ks H' locs' Q (zFr X 1654 arr [])) : zWL G X YL kc ks H locs Q (zFr X 856 arr []) := by
  obtain ⟨hx, hb, -⟩ := id h
  refine lv_aload_n hx hb (show decode cL_law 856 = .ok (.aload_n 1, 1) by decide +kernel) rfl (lv_at hl 1 rfl) ?_
  refine l_scr (pc := 857) h hX hbl hbA hS hl hL (c := 1) (by omega) (n := 1) rfl (by decide +kernel) (by decide +kernel) (by decide +kernel) (by decide +kernel) (by decide +kernel) ?_
  refine l_callV (pc := 863) h zcX11_anew clX11 rfl mdX11_anew ⟨rfl, rfl, by decide, by decide⟩ ⟨wl_1072, wl_1073, wl_1074, wl_123, wl_1075⟩ (by decide +kernel) hroom (k := 11) (i := 0) (as := [.inl (xs (i + 1))]) (rs := []) (kC_anew hJ) (by decide) (by simp [zok]) rfl (Nat.le_of_ble_eq_true rfl) rfl hM hS hl (fun r M1 H1 locs1 hk1 hM1 hr1 hS1 => ?_)
  obtain ⟨rfl, hJ1⟩ := hk1
  refine lv_aload_n hx hb (show decode cL_law 866 = .ok (.aload_n 2, 1) by decide +kernel) rfl (lv_at hl 2 rfl) ?_
  refine l_scr (pc := 867) h hX hbl hbA hS1 hl hL (c := 1) (by omega) (n := 1) rfl (by decide +kernel) (by decide +kernel) (by decide +kernel) (by decide +kernel) (by decide +kernel) ?_
  refine l_callV (pc := 873) h zcX12_anew clX12 rfl mdX12_anew ⟨rfl, rfl, by decide, by decide⟩ ⟨wl_1985, wl_1986, wl_1987, wl_139, wl_1988⟩ (by decide +kernel) hroom (k := 12) (i := 0) (as := [.inl (xs (i + 1))]) (rs := _) (kR_anew hJ1) (by decide) (by simp [zok]) rfl (Nat.le_of_ble_eq_true rfl) rfl hM1 hS1 hl (fun r M2 H2 locs2 hk2 hM2 hr2 hS2 => ?_)
  obtain ⟨rfl, hJ2⟩ := hk2
  refine lv_icmp_eq (tgt := 1654) hx hb (show decode cL_law 876 = .ok (.if_icmp .eq 778, 3) by decide +kernel) (by decide) (fun _ => kk _ _ _ _ hJ2 hM2 hS2) (fun z => absurd rfl z)
set_option maxHeartbeats 4000000 in
theorem lc_whose {G : zG} {X : zX} {Q : State → Prop} {kc ks : Nat} (h : zC G X YL) {b L i q3 : Nat} {xs : Nat → Int32} {A : aA} {M : zM} {H : Heap} {locs : List Loc} {arr : Array Slot} (hX : va_X b L xs X.2.2.1 X.2.2.1.heap) (hbl : b < X.2.2.1.heap.size) (hbA : ¬ zA G b) (hL : L ≤ 3072) (hi : i + 5 < L) (hroom : kc ≤ room_1.cells ∧ ks ≤ room_1.slots) (hl : lv_has arr 7 (lawV b (G.2.2.2.2 11 0) (G.2.2.2.2 12 0) q3 (nI i))) (hJ : JJ A M) (hM : zRep G M H) (hS : va_S (zA G) X.2.2.1.heap H locs) (kk : ∀ (A' : aA) (M' : zM) (H' : Heap) (locs' : List Loc), JJ A' M' → zRep G M' H' → va_S (zA G) X.2.2.1.heap H' locs' → zWL G X YL kc ks H' locs' Q (zFr X 1654 arr [])) : zWL G X YL kc ks H locs Q (zFr X 881 arr []) := by
  obtain ⟨hx, hb, -⟩ := id h
  refine lv_aload_n hx hb (show decode cL_law 881 = .ok (.aload_n 1, 1) by decide +kernel) rfl (lv_at hl 1 rfl) ?_
  refine l_scr (pc := 882) h hX hbl hbA hS hl hL (c := 1) (by omega) (n := 1) rfl (by decide +kernel) (by decide +kernel) (by decide +kernel) (by decide +kernel) (by decide +kernel) ?_
  refine l_scr (pc := 888) h hX hbl hbA hS hl hL (c := 2) (by omega) (n := 2) rfl (by decide +kernel) (by decide +kernel) (by decide +kernel) (by decide +kernel) (by decide +kernel) ?_
  refine l_callV (pc := 894) h zcX11_whose clX11 rfl mdX11_whose ⟨rfl, rfl, by decide, by decide⟩ ⟨wl_1092, wl_1093, wl_1094, wl_123, wl_1095⟩ (by decide +kernel) hroom (k := 11) (i := 0) (as := [.inl (xs (i + 1)), .inl (xs (i + 2))]) (rs := []) (kC_whose hJ) (by decide) (by simp [zok]) rfl (Nat.le_of_ble_eq_true rfl) rfl hM hS hl (fun r M1 H1 locs1 hk1 hM1 hr1 hS1 => ?_)
  obtain ⟨rfl, hJ1⟩ := hk1
  refine lv_aload_n hx hb (show decode cL_law 897 = .ok (.aload_n 2, 1) by decide +kernel) rfl (lv_at hl 2 rfl) ?_
  refine l_scr (pc := 898) h hX hbl hbA hS1 hl hL (c := 1) (by omega) (n := 1) rfl (by decide +kernel) (by decide +kernel) (by decide +kernel) (by decide +kernel) (by decide +kernel) ?_
  refine l_scr (pc := 904) h hX hbl hbA hS1 hl hL (c := 2) (by omega) (n := 2) rfl (by decide +kernel) (by decide +kernel) (by decide +kernel) (by decide +kernel) (by decide +kernel) ?_
  refine l_callV (pc := 910) h zcX12_whose clX12 rfl mdX12_whose ⟨rfl, rfl, by decide, by decide⟩ ⟨wl_1997, wl_1998, wl_1999, wl_139, wl_2000⟩ (by decide +kernel) hroom (k := 12) (i := 0) (as := [.inl (xs (i + 1)), .inl (xs (i + 2))]) (rs := _) (kR_whose hJ1) (by decide) (by simp [zok]) rfl (Nat.le_of_ble_eq_true rfl) rfl hM1 hS1 hl (fun r M2 H2 locs2 hk2 hM2 hr2 hS2 => ?_)
  obtain ⟨rfl, hJ2⟩ := hk2
  refine lv_icmp_eq (tgt := 1654) hx hb (show decode cL_law 913 = .ok (.if_icmp .eq 741, 3) by decide +kernel) (by decide) (fun _ => kk _ _ _ _ hJ2 hM2 hS2) (fun z => absurd rfl z)
set_option maxHeartbeats 4000000 in
theorem lc_all {G : zG} {X : zX} {Q : State → Prop} {kc ks : Nat} (h : zC G X YL) {b L i q3 : Nat} {xs : Nat → Int32} {A : aA} {M : zM} {H : Heap} {locs : List Loc} {arr : Array Slot} (hX : va_X b L xs X.2.2.1 X.2.2.1.heap) (hbl : b < X.2.2.1.heap.size) (hbA : ¬ zA G b) (hL : L ≤ 3072) (hi : i + 5 < L) (hroom : kc ≤ room_1.cells ∧ ks ≤ room_1.slots) (hl : lv_has arr 7 (lawV b (G.2.2.2.2 11 0) (G.2.2.2.2 12 0) q3 (nI i))) (hJ : JJ A M) (hM : zRep G M H) (hS : va_S (zA G) X.2.2.1.heap H locs) (kk : ∀ (A' : aA) (M' : zM) (H' : Heap) (locs' : List Loc), JJ A' M' → zRep G M' H' → va_S (zA G) X.2.2.1.heap H' locs' → zWL G X YL kc ks H' locs' Q (zFr X 1654 arr [])) : zWL G X YL kc ks H locs Q (zFr X 918 arr []) := by
  obtain ⟨hx, hb, -⟩ := id h
  refine lv_aload_n hx hb (show decode cL_law 918 = .ok (.aload_n 1, 1) by decide +kernel) rfl (lv_at hl 1 rfl) ?_
  refine l_scr (pc := 919) h hX hbl hbA hS hl hL (c := 1) (by omega) (n := 1) rfl (by decide +kernel) (by decide +kernel) (by decide +kernel) (by decide +kernel) (by decide +kernel) ?_
  refine l_callV (pc := 925) h zcX11_all clX11 rfl mdX11_all ⟨rfl, rfl, by decide, by decide⟩ ⟨wl_1100, wl_1101, wl_1102, wl_123, wl_1103⟩ (by decide +kernel) hroom (k := 11) (i := 0) (as := [.inl (xs (i + 1))]) (rs := []) (kC_all hJ) (by decide) (by simp [zok]) rfl (Nat.le_of_ble_eq_true rfl) rfl hM hS hl (fun r M1 H1 locs1 hk1 hM1 hr1 hS1 => ?_)
  obtain ⟨rfl, hJ1⟩ := hk1
  refine lv_aload_n hx hb (show decode cL_law 928 = .ok (.aload_n 2, 1) by decide +kernel) rfl (lv_at hl 2 rfl) ?_
  refine l_scr (pc := 929) h hX hbl hbA hS1 hl hL (c := 1) (by omega) (n := 1) rfl (by decide +kernel) (by decide +kernel) (by decide +kernel) (by decide +kernel) (by decide +kernel) ?_
  refine l_callV (pc := 935) h zcX12_all clX12 rfl mdX12_all ⟨rfl, rfl, by decide, by decide⟩ ⟨wl_2005, wl_2006, wl_2007, wl_139, wl_2008⟩ (by decide +kernel) hroom (k := 12) (i := 0) (as := [.inl (xs (i + 1))]) (rs := _) (kR_all hJ1) (by decide) (by simp [zok]) rfl (Nat.le_of_ble_eq_true rfl) rfl hM1 hS1 hl (fun r M2 H2 locs2 hk2 hM2 hr2 hS2 => ?_)
  obtain ⟨rfl, hJ2⟩ := hk2
  refine lv_icmp_eq (tgt := 1654) hx hb (show decode cL_law 938 = .ok (.if_icmp .eq 716, 3) by decide +kernel) (by decide) (fun _ => kk _ _ _ _ hJ2 hM2 hS2) (fun z => absurd rfl z)
set_option maxHeartbeats 4000000 in
theorem lc_likely {G : zG} {X : zX} {Q : State → Prop} {kc ks : Nat} (h : zC G X YL) {b L i q3 : Nat} {xs : Nat → Int32} {A : aA} {M : zM} {H : Heap} {locs : List Loc} {arr : Array Slot} (hX : va_X b L xs X.2.2.1 X.2.2.1.heap) (hbl : b < X.2.2.1.heap.size) (hbA : ¬ zA G b) (hL : L ≤ 3072) (hi : i + 5 < L) (hroom : kc ≤ room_1.cells ∧ ks ≤ room_1.slots) (hl : lv_has arr 7 (lawV b (G.2.2.2.2 11 0) (G.2.2.2.2 12 0) q3 (nI i))) (hJ : JJ A M) (hM : zRep G M H) (hS : va_S (zA G) X.2.2.1.heap H locs) (kk : ∀ (A' : aA) (M' : zM) (H' : Heap) (locs' : List Loc), JJ A' M' → zRep G M' H' → va_S (zA G) X.2.2.1.heap H' locs' → zWL G X YL kc ks H' locs' Q (zFr X 1654 arr [])) : zWL G X YL kc ks H locs Q (zFr X 943 arr []) := by
  obtain ⟨hx, hb, -⟩ := id h
  refine lv_aload_n hx hb (show decode cL_law 943 = .ok (.aload_n 1, 1) by decide +kernel) rfl (lv_at hl 1 rfl) ?_
  refine l_scr (pc := 944) h hX hbl hbA hS hl hL (c := 1) (by omega) (n := 1) rfl (by decide +kernel) (by decide +kernel) (by decide +kernel) (by decide +kernel) (by decide +kernel) ?_
  refine l_scr (pc := 950) h hX hbl hbA hS hl hL (c := 2) (by omega) (n := 2) rfl (by decide +kernel) (by decide +kernel) (by decide +kernel) (by decide +kernel) (by decide +kernel) ?_
  refine l_scr (pc := 956) h hX hbl hbA hS hl hL (c := 3) (by omega) (n := 3) rfl (by decide +kernel) (by decide +kernel) (by decide +kernel) (by decide +kernel) (by decide +kernel) ?_
  refine l_callV (pc := 962) h zcX11_likely clX11 rfl mdX11_likely ⟨rfl, rfl, by decide, by decide⟩ ⟨wl_1108, wl_1109, wl_1110, wl_123, wl_1111⟩ (by decide +kernel) hroom (k := 11) (i := 0) (as := [.inl (xs (i + 1)), .inl (xs (i + 2)), .inl (xs (i + 3))]) (rs := []) (kC_likely hJ) (by decide) (by simp [zok]) rfl (Nat.le_of_ble_eq_true rfl) rfl hM hS hl (fun r M1 H1 locs1 hk1 hM1 hr1 hS1 => ?_)
  obtain ⟨rfl, hJ1⟩ := hk1
  refine lv_aload_n hx hb (show decode cL_law 965 = .ok (.aload_n 2, 1) by decide +kernel) rfl (lv_at hl 2 rfl) ?_
  refine l_scr (pc := 966) h hX hbl hbA hS1 hl hL (c := 1) (by omega) (n := 1) rfl (by decide +kernel) (by decide +kernel) (by decide +kernel) (by decide +kernel) (by decide +kernel) ?_
  refine l_scr (pc := 972) h hX hbl hbA hS1 hl hL (c := 2) (by omega) (n := 2) rfl (by decide +kernel) (by decide +kernel) (by decide +kernel) (by decide +kernel) (by decide +kernel) ?_
  refine l_scr (pc := 978) h hX hbl hbA hS1 hl hL (c := 3) (by omega) (n := 3) rfl (by decide +kernel) (by decide +kernel) (by decide +kernel) (by decide +kernel) (by decide +kernel) ?_
  refine l_callV (pc := 984) h zcX12_likely clX12 rfl mdX12_likely ⟨rfl, rfl, by decide, by decide⟩ ⟨wl_2009, wl_2010, wl_2011, wl_139, wl_2012⟩ (by decide +kernel) hroom (k := 12) (i := 0) (as := [.inl (xs (i + 1)), .inl (xs (i + 2)), .inl (xs (i + 3))]) (rs := _) (kR_likely hJ1) (by decide) (by simp [zok]) rfl (Nat.le_of_ble_eq_true rfl) rfl hM1 hS1 hl (fun r M2 H2 locs2 hk2 hM2 hr2 hS2 => ?_)
  obtain ⟨rfl, hJ2⟩ := hk2
  refine W.lcmp hx hb (show decode cL_law 987 = .ok (.lcmp, 1) by decide +kernel) ?_
  refine lv_if_eq (tgt := 1654) hx hb (show decode cL_law 988 = .ok (.ifCond .eq 666, 3) by decide +kernel) (by decide) (fun _ => kk _ _ _ _ hJ2 hM2 hS2) (fun z => absurd (lcm0 _) z)
set_option maxHeartbeats 4000000 in
theorem lc_surest {G : zG} {X : zX} {Q : State → Prop} {kc ks : Nat} (h : zC G X YL) {b L i q3 : Nat} {xs : Nat → Int32} {A : aA} {M : zM} {H : Heap} {locs : List Loc} {arr : Array Slot} (hX : va_X b L xs X.2.2.1 X.2.2.1.heap) (hbl : b < X.2.2.1.heap.size) (hbA : ¬ zA G b) (hL : L ≤ 3072) (hi : i + 5 < L) (hroom : kc ≤ room_1.cells ∧ ks ≤ room_1.slots) (hl : lv_has arr 7 (lawV b (G.2.2.2.2 11 0) (G.2.2.2.2 12 0) q3 (nI i))) (hJ : JJ A M) (hM : zRep G M H) (hS : va_S (zA G) X.2.2.1.heap H locs) (kk : ∀ (A' : aA) (M' : zM) (H' : Heap) (locs' : List Loc), JJ A' M' → zRep G M' H' → va_S (zA G) X.2.2.1.heap H' locs' → zWL G X YL kc ks H' locs' Q (zFr X 1654 arr [])) : zWL G X YL kc ks H locs Q (zFr X 993 arr []) := by
  obtain ⟨hx, hb, -⟩ := id h
  refine lv_aload_n hx hb (show decode cL_law 993 = .ok (.aload_n 1, 1) by decide +kernel) rfl (lv_at hl 1 rfl) ?_
  refine l_scr (pc := 994) h hX hbl hbA hS hl hL (c := 1) (by omega) (n := 1) rfl (by decide +kernel) (by decide +kernel) (by decide +kernel) (by decide +kernel) (by decide +kernel) ?_
  refine l_callV (pc := 1000) h zcX11_surest clX11 rfl mdX11_surest ⟨rfl, rfl, by decide, by decide⟩ ⟨wl_1121, wl_1122, wl_1123, wl_123, wl_1124⟩ (by decide +kernel) hroom (k := 11) (i := 0) (as := [.inl (xs (i + 1))]) (rs := []) (kC_surest hJ) (by decide) (by simp [zok]) rfl (Nat.le_of_ble_eq_true rfl) rfl hM hS hl (fun r M1 H1 locs1 hk1 hM1 hr1 hS1 => ?_)
  obtain ⟨rfl, hJ1⟩ := hk1
  refine lv_aload_n hx hb (show decode cL_law 1003 = .ok (.aload_n 2, 1) by decide +kernel) rfl (lv_at hl 2 rfl) ?_
  refine l_scr (pc := 1004) h hX hbl hbA hS1 hl hL (c := 1) (by omega) (n := 1) rfl (by decide +kernel) (by decide +kernel) (by decide +kernel) (by decide +kernel) (by decide +kernel) ?_
  refine l_callV (pc := 1010) h zcX12_surest clX12 rfl mdX12_surest ⟨rfl, rfl, by decide, by decide⟩ ⟨wl_2018, wl_2019, wl_2020, wl_139, wl_2021⟩ (by decide +kernel) hroom (k := 12) (i := 0) (as := [.inl (xs (i + 1))]) (rs := _) (kR_surest hJ1) (by decide) (by simp [zok]) rfl (Nat.le_of_ble_eq_true rfl) rfl hM1 hS1 hl (fun r M2 H2 locs2 hk2 hM2 hr2 hS2 => ?_)
  obtain ⟨rfl, hJ2⟩ := hk2
  refine lv_icmp_eq (tgt := 1654) hx hb (show decode cL_law 1013 = .ok (.if_icmp .eq 641, 3) by decide +kernel) (by decide) (fun _ => kk _ _ _ _ hJ2 hM2 hS2) (fun z => absurd rfl z)
set_option maxHeartbeats 4000000 in
theorem lc_forge {G : zG} {X : zX} {Q : State → Prop} {kc ks : Nat} (h : zC G X YL) {b L i q3 : Nat} {xs : Nat → Int32} {A : aA} {M : zM} {H : Heap} {locs : List Loc} {arr : Array Slot} (hX : va_X b L xs X.2.2.1 X.2.2.1.heap) (hbl : b < X.2.2.1.heap.size) (hbA : ¬ zA G b) (hL : L ≤ 3072) (hi : i + 5 < L) (hroom : kc ≤ room_1.cells ∧ ks ≤ room_1.slots) (hl : lv_has arr 7 (lawV b (G.2.2.2.2 11 0) (G.2.2.2.2 12 0) q3 (nI i))) (hJ : JJ A M) (hM : zRep G M H) (hS : va_S (zA G) X.2.2.1.heap H locs) (kk : ∀ (A' : aA) (M' : zM) (H' : Heap) (locs' : List Loc), JJ A' M' → zRep G M' H' → va_S (zA G) X.2.2.1.heap H' locs' → zWL G X YL kc ks H' locs' Q (zFr X 1654 arr [])) : zWL G X YL kc ks H locs Q (zFr X 1018 arr []) := by
  obtain ⟨hx, hb, -⟩ := id h
  refine lv_aload_n hx hb (show decode cL_law 1018 = .ok (.aload_n 1, 1) by decide +kernel) rfl (lv_at hl 1 rfl) ?_
  refine l_scr (pc := 1019) h hX hbl hbA hS hl hL (c := 1) (by omega) (n := 1) rfl (by decide +kernel) (by decide +kernel) (by decide +kernel) (by decide +kernel) (by decide +kernel) ?_
  refine l_scr (pc := 1025) h hX hbl hbA hS hl hL (c := 2) (by omega) (n := 2) rfl (by decide +kernel) (by decide +kernel) (by decide +kernel) (by decide +kernel) (by decide +kernel) ?_
  refine l_scr (pc := 1031) h hX hbl hbA hS hl hL (c := 3) (by omega) (n := 3) rfl (by decide +kernel) (by decide +kernel) (by decide +kernel) (by decide +kernel) (by decide +kernel) ?_
  refine l_scr (pc := 1037) h hX hbl hbA hS hl hL (c := 4) (by omega) (n := 4) rfl (by decide +kernel) (by decide +kernel) (by decide +kernel) (by decide +kernel) (by decide +kernel) ?_
  refine l_callV (pc := 1043) h zcX11_forge clX11 rfl mdX11_forge ⟨rfl, rfl, by decide, by decide⟩ ⟨wl_1125, wl_1126, wl_1127, wl_123, wl_1128⟩ (by decide +kernel) hroom (k := 11) (i := 0) (as := [.inl (xs (i + 1)), .inl (xs (i + 2)), .inl (xs (i + 3)), .inl (xs (i + 4))]) (rs := []) (kC_forge hJ) (by decide) (by simp [zok]) rfl (Nat.le_of_ble_eq_true rfl) rfl hM hS hl (fun r M1 H1 locs1 hk1 hM1 hr1 hS1 => ?_)
  obtain ⟨rfl, hJ1⟩ := hk1
  refine lv_aload_n hx hb (show decode cL_law 1046 = .ok (.aload_n 2, 1) by decide +kernel) rfl (lv_at hl 2 rfl) ?_
  refine l_scr (pc := 1047) h hX hbl hbA hS1 hl hL (c := 1) (by omega) (n := 1) rfl (by decide +kernel) (by decide +kernel) (by decide +kernel) (by decide +kernel) (by decide +kernel) ?_
  refine l_scr (pc := 1053) h hX hbl hbA hS1 hl hL (c := 2) (by omega) (n := 2) rfl (by decide +kernel) (by decide +kernel) (by decide +kernel) (by decide +kernel) (by decide +kernel) ?_
  refine l_scr (pc := 1059) h hX hbl hbA hS1 hl hL (c := 3) (by omega) (n := 3) rfl (by decide +kernel) (by decide +kernel) (by decide +kernel) (by decide +kernel) (by decide +kernel) ?_
  refine l_scr (pc := 1065) h hX hbl hbA hS1 hl hL (c := 4) (by omega) (n := 4) rfl (by decide +kernel) (by decide +kernel) (by decide +kernel) (by decide +kernel) (by decide +kernel) ?_
  refine l_callV (pc := 1071) h zcX12_forge clX12 rfl mdX12_forge ⟨rfl, rfl, by decide, by decide⟩ ⟨wl_2022, wl_2023, wl_2024, wl_139, wl_2025⟩ (by decide +kernel) hroom (k := 12) (i := 0) (as := [.inl (xs (i + 1)), .inl (xs (i + 2)), .inl (xs (i + 3)), .inl (xs (i + 4))]) (rs := _) (kR_forge hJ1) (by decide) (by simp [zok]) rfl (Nat.le_of_ble_eq_true rfl) rfl hM1 hS1 hl (fun r M2 H2 locs2 hk2 hM2 hr2 hS2 => ?_)
  obtain ⟨rfl, hJ2⟩ := hk2
  refine lv_icmp_eq (tgt := 1654) hx hb (show decode cL_law 1074 = .ok (.if_icmp .eq 580, 3) by decide +kernel) (by decide) (fun _ => kk _ _ _ _ hJ2 hM2 hS2) (fun z => absurd rfl z)
set_option maxHeartbeats 4000000 in
theorem lc_places {G : zG} {X : zX} {Q : State → Prop} {kc ks : Nat} (h : zC G X YL) {b L i q3 : Nat} {xs : Nat → Int32} {A : aA} {M : zM} {H : Heap} {locs : List Loc} {arr : Array Slot} (hX : va_X b L xs X.2.2.1 X.2.2.1.heap) (hbl : b < X.2.2.1.heap.size) (hbA : ¬ zA G b) (hL : L ≤ 3072) (hi : i + 5 < L) (hroom : kc ≤ room_1.cells ∧ ks ≤ room_1.slots) (hl : lv_has arr 7 (lawV b (G.2.2.2.2 11 0) (G.2.2.2.2 12 0) q3 (nI i))) (hJ : JJ A M) (hM : zRep G M H) (hS : va_S (zA G) X.2.2.1.heap H locs) (kk : ∀ (A' : aA) (M' : zM) (H' : Heap) (locs' : List Loc), JJ A' M' → zRep G M' H' → va_S (zA G) X.2.2.1.heap H' locs' → zWL G X YL kc ks H' locs' Q (zFr X 1654 arr [])) : zWL G X YL kc ks H locs Q (zFr X 1079 arr []) := by
  obtain ⟨hx, hb, -⟩ := id h
  refine lv_aload_n hx hb (show decode cL_law 1079 = .ok (.aload_n 1, 1) by decide +kernel) rfl (lv_at hl 1 rfl) ?_
  refine l_callV (pc := 1080) h zcX11_places clX11 rfl mdX11_places ⟨rfl, rfl, by decide, by decide⟩ ⟨wl_1139, wl_1140, wl_1141, wl_123, wl_1142⟩ (by decide +kernel) hroom (k := 11) (i := 0) (as := []) (rs := []) (kC_places hJ) (by decide) (by simp [zok]) rfl (Nat.le_of_ble_eq_true rfl) rfl hM hS hl (fun r M1 H1 locs1 hk1 hM1 hr1 hS1 => ?_)
  obtain ⟨rfl, hJ1⟩ := hk1
  refine lv_aload_n hx hb (show decode cL_law 1083 = .ok (.aload_n 2, 1) by decide +kernel) rfl (lv_at hl 2 rfl) ?_
  refine l_callV (pc := 1084) h zcX12_places clX12 rfl mdX12_places ⟨rfl, rfl, by decide, by decide⟩ ⟨wl_2026, wl_2027, wl_2028, wl_139, wl_2029⟩ (by decide +kernel) hroom (k := 12) (i := 0) (as := []) (rs := _) (kR_places hJ1) (by decide) (by simp [zok]) rfl (Nat.le_of_ble_eq_true rfl) rfl hM1 hS1 hl (fun r M2 H2 locs2 hk2 hM2 hr2 hS2 => ?_)
  obtain ⟨rfl, hJ2⟩ := hk2
  refine lv_icmp_eq (tgt := 1654) hx hb (show decode cL_law 1087 = .ok (.if_icmp .eq 567, 3) by decide +kernel) (by decide) (fun _ => kk _ _ _ _ hJ2 hM2 hS2) (fun z => absurd rfl z)
set_option maxHeartbeats 4000000 in
theorem lc_joint {G : zG} {X : zX} {Q : State → Prop} {kc ks : Nat} (h : zC G X YL) {b L i q3 : Nat} {xs : Nat → Int32} {A : aA} {M : zM} {H : Heap} {locs : List Loc} {arr : Array Slot} (hX : va_X b L xs X.2.2.1 X.2.2.1.heap) (hbl : b < X.2.2.1.heap.size) (hbA : ¬ zA G b) (hL : L ≤ 3072) (hi : i + 5 < L) (hroom : kc ≤ room_1.cells ∧ ks ≤ room_1.slots) (hl : lv_has arr 7 (lawV b (G.2.2.2.2 11 0) (G.2.2.2.2 12 0) q3 (nI i))) (hJ : JJ A M) (hM : zRep G M H) (hS : va_S (zA G) X.2.2.1.heap H locs) (kk : ∀ (A' : aA) (M' : zM) (H' : Heap) (locs' : List Loc), JJ A' M' → zRep G M' H' → va_S (zA G) X.2.2.1.heap H' locs' → zWL G X YL kc ks H' locs' Q (zFr X 1654 arr [])) : zWL G X YL kc ks H locs Q (zFr X 1092 arr []) := by
  obtain ⟨hx, hb, -⟩ := id h
  refine lv_aload_n hx hb (show decode cL_law 1092 = .ok (.aload_n 1, 1) by decide +kernel) rfl (lv_at hl 1 rfl) ?_
  refine l_scr (pc := 1093) h hX hbl hbA hS hl hL (c := 1) (by omega) (n := 1) rfl (by decide +kernel) (by decide +kernel) (by decide +kernel) (by decide +kernel) (by decide +kernel) ?_
  refine l_scr (pc := 1099) h hX hbl hbA hS hl hL (c := 2) (by omega) (n := 2) rfl (by decide +kernel) (by decide +kernel) (by decide +kernel) (by decide +kernel) (by decide +kernel) ?_
  refine l_callV (pc := 1105) h zcX11_joint clX11 rfl mdX11_joint ⟨rfl, rfl, by decide, by decide⟩ ⟨wl_1151, wl_1152, wl_1153, wl_123, wl_1154⟩ (by decide +kernel) hroom (k := 11) (i := 0) (as := [.inl (xs (i + 1)), .inl (xs (i + 2))]) (rs := []) (kC_joint hJ) (by decide) (by simp [zok]) rfl (Nat.le_of_ble_eq_true rfl) rfl hM hS hl (fun r M1 H1 locs1 hk1 hM1 hr1 hS1 => ?_)
  obtain ⟨rfl, hJ1⟩ := hk1
  refine lv_aload_n hx hb (show decode cL_law 1108 = .ok (.aload_n 2, 1) by decide +kernel) rfl (lv_at hl 2 rfl) ?_
  refine l_scr (pc := 1109) h hX hbl hbA hS1 hl hL (c := 1) (by omega) (n := 1) rfl (by decide +kernel) (by decide +kernel) (by decide +kernel) (by decide +kernel) (by decide +kernel) ?_
  refine l_scr (pc := 1115) h hX hbl hbA hS1 hl hL (c := 2) (by omega) (n := 2) rfl (by decide +kernel) (by decide +kernel) (by decide +kernel) (by decide +kernel) (by decide +kernel) ?_
  refine l_callV (pc := 1121) h zcX12_joint clX12 rfl mdX12_joint ⟨rfl, rfl, by decide, by decide⟩ ⟨wl_2040, wl_2041, wl_2042, wl_139, wl_2043⟩ (by decide +kernel) hroom (k := 12) (i := 0) (as := [.inl (xs (i + 1)), .inl (xs (i + 2))]) (rs := _) (kR_joint hJ1) (by decide) (by simp [zok]) rfl (Nat.le_of_ble_eq_true rfl) rfl hM1 hS1 hl (fun r M2 H2 locs2 hk2 hM2 hr2 hS2 => ?_)
  obtain ⟨rfl, hJ2⟩ := hk2
  refine lv_icmp_eq (tgt := 1654) hx hb (show decode cL_law 1124 = .ok (.if_icmp .eq 530, 3) by decide +kernel) (by decide) (fun _ => kk _ _ _ _ hJ2 hM2 hS2) (fun z => absurd rfl z)
set_option maxHeartbeats 4000000 in
theorem lc_holds {G : zG} {X : zX} {Q : State → Prop} {kc ks : Nat} (h : zC G X YL) {b L i q3 : Nat} {xs : Nat → Int32} {A : aA} {M : zM} {H : Heap} {locs : List Loc} {arr : Array Slot} (hX : va_X b L xs X.2.2.1 X.2.2.1.heap) (hbl : b < X.2.2.1.heap.size) (hbA : ¬ zA G b) (hL : L ≤ 3072) (hi : i + 5 < L) (hroom : kc ≤ room_1.cells ∧ ks ≤ room_1.slots) (hl : lv_has arr 7 (lawV b (G.2.2.2.2 11 0) (G.2.2.2.2 12 0) q3 (nI i))) (hJ : JJ A M) (hM : zRep G M H) (hS : va_S (zA G) X.2.2.1.heap H locs) (kk : ∀ (A' : aA) (M' : zM) (H' : Heap) (locs' : List Loc), JJ A' M' → zRep G M' H' → va_S (zA G) X.2.2.1.heap H' locs' → zWL G X YL kc ks H' locs' Q (zFr X 1654 arr [])) : zWL G X YL kc ks H locs Q (zFr X 1129 arr []) := by
  obtain ⟨hx, hb, -⟩ := id h
  refine lv_aload_n hx hb (show decode cL_law 1129 = .ok (.aload_n 1, 1) by decide +kernel) rfl (lv_at hl 1 rfl) ?_
  refine l_scr (pc := 1130) h hX hbl hbA hS hl hL (c := 1) (by omega) (n := 1) rfl (by decide +kernel) (by decide +kernel) (by decide +kernel) (by decide +kernel) (by decide +kernel) ?_
  refine l_callV (pc := 1136) h zcX11_holds clX11 rfl mdX11_holds ⟨rfl, rfl, by decide, by decide⟩ ⟨wl_1180, wl_1181, wl_1182, wl_123, wl_1183⟩ (by decide +kernel) hroom (k := 11) (i := 0) (as := [.inl (xs (i + 1))]) (rs := []) (kC_holds hJ) (by decide) (by simp [zok]) rfl (Nat.le_of_ble_eq_true rfl) rfl hM hS hl (fun r M1 H1 locs1 hk1 hM1 hr1 hS1 => ?_)
  obtain ⟨rfl, hJ1⟩ := hk1
  refine lv_aload_n hx hb (show decode cL_law 1139 = .ok (.aload_n 2, 1) by decide +kernel) rfl (lv_at hl 2 rfl) ?_
  refine l_scr (pc := 1140) h hX hbl hbA hS1 hl hL (c := 1) (by omega) (n := 1) rfl (by decide +kernel) (by decide +kernel) (by decide +kernel) (by decide +kernel) (by decide +kernel) ?_
  refine l_callV (pc := 1146) h zcX12_holds clX12 rfl mdX12_holds ⟨rfl, rfl, by decide, by decide⟩ ⟨wl_2051, wl_2052, wl_2053, wl_139, wl_2054⟩ (by decide +kernel) hroom (k := 12) (i := 0) (as := [.inl (xs (i + 1))]) (rs := _) (kR_holds hJ1) (by decide) (by simp [zok]) rfl (Nat.le_of_ble_eq_true rfl) rfl hM1 hS1 hl (fun r M2 H2 locs2 hk2 hM2 hr2 hS2 => ?_)
  obtain ⟨rfl, hJ2⟩ := hk2
  refine lv_icmp_eq (tgt := 1654) hx hb (show decode cL_law 1149 = .ok (.if_icmp .eq 505, 3) by decide +kernel) (by decide) (fun _ => kk _ _ _ _ hJ2 hM2 hS2) (fun z => absurd rfl z)
set_option maxHeartbeats 4000000 in
theorem lc_will {G : zG} {X : zX} {Q : State → Prop} {kc ks : Nat} (h : zC G X YL) {b L i q3 : Nat} {xs : Nat → Int32} {A : aA} {M : zM} {H : Heap} {locs : List Loc} {arr : Array Slot} (hX : va_X b L xs X.2.2.1 X.2.2.1.heap) (hbl : b < X.2.2.1.heap.size) (hbA : ¬ zA G b) (hL : L ≤ 3072) (hi : i + 5 < L) (hroom : kc ≤ room_1.cells ∧ ks ≤ room_1.slots) (hl : lv_has arr 7 (lawV b (G.2.2.2.2 11 0) (G.2.2.2.2 12 0) q3 (nI i))) (hJ : JJ A M) (hM : zRep G M H) (hS : va_S (zA G) X.2.2.1.heap H locs) (kk : ∀ (A' : aA) (M' : zM) (H' : Heap) (locs' : List Loc), JJ A' M' → zRep G M' H' → va_S (zA G) X.2.2.1.heap H' locs' → zWL G X YL kc ks H' locs' Q (zFr X 1654 arr [])) : zWL G X YL kc ks H locs Q (zFr X 1154 arr []) := by
  obtain ⟨hx, hb, -⟩ := id h
  refine lv_aload_n hx hb (show decode cL_law 1154 = .ok (.aload_n 1, 1) by decide +kernel) rfl (lv_at hl 1 rfl) ?_
  refine l_scr (pc := 1155) h hX hbl hbA hS hl hL (c := 1) (by omega) (n := 1) rfl (by decide +kernel) (by decide +kernel) (by decide +kernel) (by decide +kernel) (by decide +kernel) ?_
  refine l_scr (pc := 1161) h hX hbl hbA hS hl hL (c := 2) (by omega) (n := 2) rfl (by decide +kernel) (by decide +kernel) (by decide +kernel) (by decide +kernel) (by decide +kernel) ?_
  refine l_callV (pc := 1167) h zcX11_will clX11 rfl mdX11_will ⟨rfl, rfl, by decide, by decide⟩ ⟨wl_1185, wl_1186, wl_1187, wl_123, wl_1188⟩ (by decide +kernel) hroom (k := 11) (i := 0) (as := [.inl (xs (i + 1)), .inl (xs (i + 2))]) (rs := []) (kC_will hJ) (by decide) (by simp [zok]) rfl (Nat.le_of_ble_eq_true rfl) rfl hM hS hl (fun r M1 H1 locs1 hk1 hM1 hr1 hS1 => ?_)
  obtain ⟨rfl, hJ1⟩ := hk1
  refine lv_aload_n hx hb (show decode cL_law 1170 = .ok (.aload_n 2, 1) by decide +kernel) rfl (lv_at hl 2 rfl) ?_
  refine l_scr (pc := 1171) h hX hbl hbA hS1 hl hL (c := 1) (by omega) (n := 1) rfl (by decide +kernel) (by decide +kernel) (by decide +kernel) (by decide +kernel) (by decide +kernel) ?_
  refine l_scr (pc := 1177) h hX hbl hbA hS1 hl hL (c := 2) (by omega) (n := 2) rfl (by decide +kernel) (by decide +kernel) (by decide +kernel) (by decide +kernel) (by decide +kernel) ?_
  refine l_callV (pc := 1183) h zcX12_will clX12 rfl mdX12_will ⟨rfl, rfl, by decide, by decide⟩ ⟨wl_2067, wl_2068, wl_2069, wl_139, wl_2070⟩ (by decide +kernel) hroom (k := 12) (i := 0) (as := [.inl (xs (i + 1)), .inl (xs (i + 2))]) (rs := _) (kR_will hJ1) (by decide) (by simp [zok]) rfl (Nat.le_of_ble_eq_true rfl) rfl hM1 hS1 hl (fun r M2 H2 locs2 hk2 hM2 hr2 hS2 => ?_)
  obtain ⟨rfl, hJ2⟩ := hk2
  refine lv_icmp_eq (tgt := 1654) hx hb (show decode cL_law 1186 = .ok (.if_icmp .eq 468, 3) by decide +kernel) (by decide) (fun _ => kk _ _ _ _ hJ2 hM2 hS2) (fun z => absurd rfl z)
set_option maxHeartbeats 4000000 in
theorem lc_rests {G : zG} {X : zX} {Q : State → Prop} {kc ks : Nat} (h : zC G X YL) {b L i q3 : Nat} {xs : Nat → Int32} {A : aA} {M : zM} {H : Heap} {locs : List Loc} {arr : Array Slot} (hX : va_X b L xs X.2.2.1 X.2.2.1.heap) (hbl : b < X.2.2.1.heap.size) (hbA : ¬ zA G b) (hL : L ≤ 3072) (hi : i + 5 < L) (hroom : kc ≤ room_1.cells ∧ ks ≤ room_1.slots) (hl : lv_has arr 7 (lawV b (G.2.2.2.2 11 0) (G.2.2.2.2 12 0) q3 (nI i))) (hJ : JJ A M) (hM : zRep G M H) (hS : va_S (zA G) X.2.2.1.heap H locs) (kk : ∀ (A' : aA) (M' : zM) (H' : Heap) (locs' : List Loc), JJ A' M' → zRep G M' H' → va_S (zA G) X.2.2.1.heap H' locs' → zWL G X YL kc ks H' locs' Q (zFr X 1654 arr [])) : zWL G X YL kc ks H locs Q (zFr X 1191 arr []) := by
  obtain ⟨hx, hb, -⟩ := id h
  refine lv_aload_n hx hb (show decode cL_law 1191 = .ok (.aload_n 1, 1) by decide +kernel) rfl (lv_at hl 1 rfl) ?_
  refine l_scr (pc := 1192) h hX hbl hbA hS hl hL (c := 1) (by omega) (n := 1) rfl (by decide +kernel) (by decide +kernel) (by decide +kernel) (by decide +kernel) (by decide +kernel) ?_
  refine l_scr (pc := 1198) h hX hbl hbA hS hl hL (c := 2) (by omega) (n := 2) rfl (by decide +kernel) (by decide +kernel) (by decide +kernel) (by decide +kernel) (by decide +kernel) ?_
  refine l_callV (pc := 1204) h zcX11_rests clX11 rfl mdX11_rests ⟨rfl, rfl, by decide, by decide⟩ ⟨wl_1189, wl_1190, wl_1191, wl_123, wl_1192⟩ (by decide +kernel) hroom (k := 11) (i := 0) (as := [.inl (xs (i + 1)), .inl (xs (i + 2))]) (rs := []) (kC_rests hJ) (by decide) (by simp [zok]) rfl (Nat.le_of_ble_eq_true rfl) rfl hM hS hl (fun r M1 H1 locs1 hk1 hM1 hr1 hS1 => ?_)
  obtain ⟨rfl, hJ1⟩ := hk1
  refine lv_aload_n hx hb (show decode cL_law 1207 = .ok (.aload_n 2, 1) by decide +kernel) rfl (lv_at hl 2 rfl) ?_
  refine l_scr (pc := 1208) h hX hbl hbA hS1 hl hL (c := 1) (by omega) (n := 1) rfl (by decide +kernel) (by decide +kernel) (by decide +kernel) (by decide +kernel) (by decide +kernel) ?_
  refine l_scr (pc := 1214) h hX hbl hbA hS1 hl hL (c := 2) (by omega) (n := 2) rfl (by decide +kernel) (by decide +kernel) (by decide +kernel) (by decide +kernel) (by decide +kernel) ?_
  refine l_callV (pc := 1220) h zcX12_rests clX12 rfl mdX12_rests ⟨rfl, rfl, by decide, by decide⟩ ⟨wl_2071, wl_2072, wl_2073, wl_139, wl_2074⟩ (by decide +kernel) hroom (k := 12) (i := 0) (as := [.inl (xs (i + 1)), .inl (xs (i + 2))]) (rs := _) (kR_rests hJ1) (by decide) (by simp [zok]) rfl (Nat.le_of_ble_eq_true rfl) rfl hM1 hS1 hl (fun r M2 H2 locs2 hk2 hM2 hr2 hS2 => ?_)
  obtain ⟨rfl, hJ2⟩ := hk2
  refine lv_icmp_eq (tgt := 1654) hx hb (show decode cL_law 1223 = .ok (.if_icmp .eq 431, 3) by decide +kernel) (by decide) (fun _ => kk _ _ _ _ hJ2 hM2 hS2) (fun z => absurd rfl z)
set_option maxHeartbeats 4000000 in
theorem lc_rest {G : zG} {X : zX} {Q : State → Prop} {kc ks : Nat} (h : zC G X YL) {b L i q3 : Nat} {xs : Nat → Int32} {A : aA} {M : zM} {H : Heap} {locs : List Loc} {arr : Array Slot} (hX : va_X b L xs X.2.2.1 X.2.2.1.heap) (hbl : b < X.2.2.1.heap.size) (hbA : ¬ zA G b) (hL : L ≤ 3072) (hi : i + 5 < L) (hroom : kc ≤ room_1.cells ∧ ks ≤ room_1.slots) (hl : lv_has arr 7 (lawV b (G.2.2.2.2 11 0) (G.2.2.2.2 12 0) q3 (nI i))) (hJ : JJ A M) (hM : zRep G M H) (hS : va_S (zA G) X.2.2.1.heap H locs) (kk : ∀ (A' : aA) (M' : zM) (H' : Heap) (locs' : List Loc), JJ A' M' → zRep G M' H' → va_S (zA G) X.2.2.1.heap H' locs' → zWL G X YL kc ks H' locs' Q (zFr X 1654 arr [])) : zWL G X YL kc ks H locs Q (zFr X 1228 arr []) := by
  obtain ⟨hx, hb, -⟩ := id h
  refine lv_aload_n hx hb (show decode cL_law 1228 = .ok (.aload_n 1, 1) by decide +kernel) rfl (lv_at hl 1 rfl) ?_
  refine l_scr (pc := 1229) h hX hbl hbA hS hl hL (c := 1) (by omega) (n := 1) rfl (by decide +kernel) (by decide +kernel) (by decide +kernel) (by decide +kernel) (by decide +kernel) ?_
  refine l_scr (pc := 1235) h hX hbl hbA hS hl hL (c := 2) (by omega) (n := 2) rfl (by decide +kernel) (by decide +kernel) (by decide +kernel) (by decide +kernel) (by decide +kernel) ?_
  refine l_scr (pc := 1241) h hX hbl hbA hS hl hL (c := 3) (by omega) (n := 3) rfl (by decide +kernel) (by decide +kernel) (by decide +kernel) (by decide +kernel) (by decide +kernel) ?_
  refine l_callV (pc := 1247) h zcX11_rest clX11 rfl mdX11_rest ⟨rfl, rfl, by decide, by decide⟩ ⟨wl_1209, wl_1210, wl_1211, wl_123, wl_1212⟩ (by decide +kernel) hroom (k := 11) (i := 0) (as := [.inl (xs (i + 1)), .inl (xs (i + 2)), .inl (xs (i + 3))]) (rs := []) (kC_rest hJ) (by decide) (by simp [zok]) rfl (Nat.le_of_ble_eq_true rfl) rfl hM hS hl (fun r M1 H1 locs1 hk1 hM1 hr1 hS1 => ?_)
  obtain ⟨rfl, hJ1⟩ := hk1
  refine lv_aload_n hx hb (show decode cL_law 1250 = .ok (.aload_n 2, 1) by decide +kernel) rfl (lv_at hl 2 rfl) ?_
  refine l_scr (pc := 1251) h hX hbl hbA hS1 hl hL (c := 1) (by omega) (n := 1) rfl (by decide +kernel) (by decide +kernel) (by decide +kernel) (by decide +kernel) (by decide +kernel) ?_
  refine l_scr (pc := 1257) h hX hbl hbA hS1 hl hL (c := 2) (by omega) (n := 2) rfl (by decide +kernel) (by decide +kernel) (by decide +kernel) (by decide +kernel) (by decide +kernel) ?_
  refine l_scr (pc := 1263) h hX hbl hbA hS1 hl hL (c := 3) (by omega) (n := 3) rfl (by decide +kernel) (by decide +kernel) (by decide +kernel) (by decide +kernel) (by decide +kernel) ?_
  refine l_callV (pc := 1269) h zcX12_rest clX12 rfl mdX12_rest ⟨rfl, rfl, by decide, by decide⟩ ⟨wl_2087, wl_2088, wl_2089, wl_139, wl_2090⟩ (by decide +kernel) hroom (k := 12) (i := 0) (as := [.inl (xs (i + 1)), .inl (xs (i + 2)), .inl (xs (i + 3))]) (rs := _) (kR_rest hJ1) (by decide) (by simp [zok]) rfl (Nat.le_of_ble_eq_true rfl) rfl hM1 hS1 hl (fun r M2 H2 locs2 hk2 hM2 hr2 hS2 => ?_)
  obtain ⟨rfl, hJ2⟩ := hk2
  refine lv_icmp_eq (tgt := 1654) hx hb (show decode cL_law 1272 = .ok (.if_icmp .eq 382, 3) by decide +kernel) (by decide) (fun _ => kk _ _ _ _ hJ2 hM2 hS2) (fun z => absurd rfl z)
set_option maxHeartbeats 4000000 in
theorem lc_owns {G : zG} {X : zX} {Q : State → Prop} {kc ks : Nat} (h : zC G X YL) {b L i q3 : Nat} {xs : Nat → Int32} {A : aA} {M : zM} {H : Heap} {locs : List Loc} {arr : Array Slot} (hX : va_X b L xs X.2.2.1 X.2.2.1.heap) (hbl : b < X.2.2.1.heap.size) (hbA : ¬ zA G b) (hL : L ≤ 3072) (hi : i + 5 < L) (hroom : kc ≤ room_1.cells ∧ ks ≤ room_1.slots) (hl : lv_has arr 7 (lawV b (G.2.2.2.2 11 0) (G.2.2.2.2 12 0) q3 (nI i))) (hJ : JJ A M) (hM : zRep G M H) (hS : va_S (zA G) X.2.2.1.heap H locs) (kk : ∀ (A' : aA) (M' : zM) (H' : Heap) (locs' : List Loc), JJ A' M' → zRep G M' H' → va_S (zA G) X.2.2.1.heap H' locs' → zWL G X YL kc ks H' locs' Q (zFr X 1654 arr [])) : zWL G X YL kc ks H locs Q (zFr X 1277 arr []) := by
  obtain ⟨hx, hb, -⟩ := id h
  refine lv_aload_n hx hb (show decode cL_law 1277 = .ok (.aload_n 1, 1) by decide +kernel) rfl (lv_at hl 1 rfl) ?_
  refine l_scr (pc := 1278) h hX hbl hbA hS hl hL (c := 1) (by omega) (n := 1) rfl (by decide +kernel) (by decide +kernel) (by decide +kernel) (by decide +kernel) (by decide +kernel) ?_
  refine l_callV (pc := 1284) h zcX11_owns clX11 rfl mdX11_owns ⟨rfl, rfl, by decide, by decide⟩ ⟨wl_1213, wl_1214, wl_1215, wl_123, wl_1216⟩ (by decide +kernel) hroom (k := 11) (i := 0) (as := [.inl (xs (i + 1))]) (rs := []) (kC_owns hJ) (by decide) (by simp [zok]) rfl (Nat.le_of_ble_eq_true rfl) rfl hM hS hl (fun r M1 H1 locs1 hk1 hM1 hr1 hS1 => ?_)
  obtain ⟨rfl, hJ1⟩ := hk1
  refine lv_aload_n hx hb (show decode cL_law 1287 = .ok (.aload_n 2, 1) by decide +kernel) rfl (lv_at hl 2 rfl) ?_
  refine l_scr (pc := 1288) h hX hbl hbA hS1 hl hL (c := 1) (by omega) (n := 1) rfl (by decide +kernel) (by decide +kernel) (by decide +kernel) (by decide +kernel) (by decide +kernel) ?_
  refine l_callV (pc := 1294) h zcX12_owns clX12 rfl mdX12_owns ⟨rfl, rfl, by decide, by decide⟩ ⟨wl_2055, wl_2056, wl_2057, wl_139, wl_2058⟩ (by decide +kernel) hroom (k := 12) (i := 0) (as := [.inl (xs (i + 1))]) (rs := _) (kR_owns hJ1) (by decide) (by simp [zok]) rfl (Nat.le_of_ble_eq_true rfl) rfl hM1 hS1 hl (fun r M2 H2 locs2 hk2 hM2 hr2 hS2 => ?_)
  obtain ⟨rfl, hJ2⟩ := hk2
  refine lv_icmp_eq (tgt := 1654) hx hb (show decode cL_law 1297 = .ok (.if_icmp .eq 357, 3) by decide +kernel) (by decide) (fun _ => kk _ _ _ _ hJ2 hM2 hS2) (fun z => absurd rfl z)
set_option maxHeartbeats 4000000 in
theorem lc_fading {G : zG} {X : zX} {Q : State → Prop} {kc ks : Nat} (h : zC G X YL) {b L i q3 : Nat} {xs : Nat → Int32} {A : aA} {M : zM} {H : Heap} {locs : List Loc} {arr : Array Slot} (hX : va_X b L xs X.2.2.1 X.2.2.1.heap) (hbl : b < X.2.2.1.heap.size) (hbA : ¬ zA G b) (hL : L ≤ 3072) (hi : i + 5 < L) (hroom : kc ≤ room_1.cells ∧ ks ≤ room_1.slots) (hl : lv_has arr 7 (lawV b (G.2.2.2.2 11 0) (G.2.2.2.2 12 0) q3 (nI i))) (hJ : JJ A M) (hM : zRep G M H) (hS : va_S (zA G) X.2.2.1.heap H locs) (kk : ∀ (A' : aA) (M' : zM) (H' : Heap) (locs' : List Loc), JJ A' M' → zRep G M' H' → va_S (zA G) X.2.2.1.heap H' locs' → zWL G X YL kc ks H' locs' Q (zFr X 1654 arr [])) : zWL G X YL kc ks H locs Q (zFr X 1302 arr []) := by
  obtain ⟨hx, hb, -⟩ := id h
  refine lv_aload_n hx hb (show decode cL_law 1302 = .ok (.aload_n 1, 1) by decide +kernel) rfl (lv_at hl 1 rfl) ?_
  refine l_scr (pc := 1303) h hX hbl hbA hS hl hL (c := 1) (by omega) (n := 1) rfl (by decide +kernel) (by decide +kernel) (by decide +kernel) (by decide +kernel) (by decide +kernel) ?_
  refine l_callV (pc := 1309) h zcX11_fading clX11 rfl mdX11_fading ⟨rfl, rfl, by decide, by decide⟩ ⟨wl_1217, wl_1218, wl_1219, wl_123, wl_1220⟩ (by decide +kernel) hroom (k := 11) (i := 0) (as := [.inl (xs (i + 1))]) (rs := []) (kC_fading hJ) (by decide) (by simp [zok]) rfl (Nat.le_of_ble_eq_true rfl) rfl hM hS hl (fun r M1 H1 locs1 hk1 hM1 hr1 hS1 => ?_)
  obtain ⟨rfl, hJ1⟩ := hk1
  refine lv_aload_n hx hb (show decode cL_law 1312 = .ok (.aload_n 2, 1) by decide +kernel) rfl (lv_at hl 2 rfl) ?_
  refine l_scr (pc := 1313) h hX hbl hbA hS1 hl hL (c := 1) (by omega) (n := 1) rfl (by decide +kernel) (by decide +kernel) (by decide +kernel) (by decide +kernel) (by decide +kernel) ?_
  refine l_callV (pc := 1319) h zcX12_fading clX12 rfl mdX12_fading ⟨rfl, rfl, by decide, by decide⟩ ⟨wl_2059, wl_2060, wl_2061, wl_139, wl_2062⟩ (by decide +kernel) hroom (k := 12) (i := 0) (as := [.inl (xs (i + 1))]) (rs := _) (kR_fading hJ1) (by decide) (by simp [zok]) rfl (Nat.le_of_ble_eq_true rfl) rfl hM1 hS1 hl (fun r M2 H2 locs2 hk2 hM2 hr2 hS2 => ?_)
  obtain ⟨rfl, hJ2⟩ := hk2
  refine lv_icmp_eq (tgt := 1654) hx hb (show decode cL_law 1322 = .ok (.if_icmp .eq 332, 3) by decide +kernel) (by decide) (fun _ => kk _ _ _ _ hJ2 hM2 hS2) (fun z => absurd rfl z)
set_option maxHeartbeats 4000000 in
theorem lc_own {G : zG} {X : zX} {Q : State → Prop} {kc ks : Nat} (h : zC G X YL) {b L i q3 : Nat} {xs : Nat → Int32} {A : aA} {M : zM} {H : Heap} {locs : List Loc} {arr : Array Slot} (hX : va_X b L xs X.2.2.1 X.2.2.1.heap) (hbl : b < X.2.2.1.heap.size) (hbA : ¬ zA G b) (hL : L ≤ 3072) (hi : i + 5 < L) (hroom : kc ≤ room_1.cells ∧ ks ≤ room_1.slots) (hl : lv_has arr 7 (lawV b (G.2.2.2.2 11 0) (G.2.2.2.2 12 0) q3 (nI i))) (hJ : JJ A M) (hM : zRep G M H) (hS : va_S (zA G) X.2.2.1.heap H locs) (kk : ∀ (A' : aA) (M' : zM) (H' : Heap) (locs' : List Loc), JJ A' M' → zRep G M' H' → va_S (zA G) X.2.2.1.heap H' locs' → zWL G X YL kc ks H' locs' Q (zFr X 1654 arr [])) : zWL G X YL kc ks H locs Q (zFr X 1327 arr []) := by
  obtain ⟨hx, hb, -⟩ := id h
  refine lv_aload_n hx hb (show decode cL_law 1327 = .ok (.aload_n 1, 1) by decide +kernel) rfl (lv_at hl 1 rfl) ?_
  refine l_scr (pc := 1328) h hX hbl hbA hS hl hL (c := 1) (by omega) (n := 1) rfl (by decide +kernel) (by decide +kernel) (by decide +kernel) (by decide +kernel) (by decide +kernel) ?_
  refine l_callV (pc := 1334) h zcX11_own clX11 rfl mdX11_own ⟨rfl, rfl, by decide, by decide⟩ ⟨wl_1221, wl_1222, wl_1223, wl_123, wl_1224⟩ (by decide +kernel) hroom (k := 11) (i := 0) (as := [.inl (xs (i + 1))]) (rs := []) (kC_own hJ) (by decide) (by simp [zok]) rfl (Nat.le_of_ble_eq_true rfl) rfl hM hS hl (fun r M1 H1 locs1 hk1 hM1 hr1 hS1 => ?_)
  obtain ⟨rfl, hJ1⟩ := hk1
  refine lv_aload_n hx hb (show decode cL_law 1337 = .ok (.aload_n 2, 1) by decide +kernel) rfl (lv_at hl 2 rfl) ?_
  refine l_scr (pc := 1338) h hX hbl hbA hS1 hl hL (c := 1) (by omega) (n := 1) rfl (by decide +kernel) (by decide +kernel) (by decide +kernel) (by decide +kernel) (by decide +kernel) ?_
  refine l_callV (pc := 1344) h zcX12_own clX12 rfl mdX12_own ⟨rfl, rfl, by decide, by decide⟩ ⟨wl_2063, wl_2064, wl_2065, wl_139, wl_2066⟩ (by decide +kernel) hroom (k := 12) (i := 0) (as := [.inl (xs (i + 1))]) (rs := _) (kR_own hJ1) (by decide) (by simp [zok]) rfl (Nat.le_of_ble_eq_true rfl) rfl hM1 hS1 hl (fun r M2 H2 locs2 hk2 hM2 hr2 hS2 => ?_)
  obtain ⟨rfl, hJ2⟩ := hk2
  refine lv_icmp_eq (tgt := 1654) hx hb (show decode cL_law 1347 = .ok (.if_icmp .eq 307, 3) by decide +kernel) (by decide) (fun _ => kk _ _ _ _ hJ2 hM2 hS2) (fun z => absurd rfl z)
set_option maxHeartbeats 4000000 in
theorem lc_strike {G : zG} {X : zX} {Q : State → Prop} {kc ks : Nat} (h : zC G X YL) {b L i q3 : Nat} {xs : Nat → Int32} {A : aA} {M : zM} {H : Heap} {locs : List Loc} {arr : Array Slot} (hX : va_X b L xs X.2.2.1 X.2.2.1.heap) (hbl : b < X.2.2.1.heap.size) (hbA : ¬ zA G b) (hL : L ≤ 3072) (hi : i + 5 < L) (hroom : kc ≤ room_1.cells ∧ ks ≤ room_1.slots) (hl : lv_has arr 7 (lawV b (G.2.2.2.2 11 0) (G.2.2.2.2 12 0) q3 (nI i))) (hJ : JJ A M) (hM : zRep G M H) (hS : va_S (zA G) X.2.2.1.heap H locs) (kk : ∀ (A' : aA) (M' : zM) (H' : Heap) (locs' : List Loc), JJ A' M' → zRep G M' H' → va_S (zA G) X.2.2.1.heap H' locs' → zWL G X YL kc ks H' locs' Q (zFr X 1654 arr [])) : zWL G X YL kc ks H locs Q (zFr X 1417 arr []) := by
  obtain ⟨hx, hb, -⟩ := id h
  refine lv_aload_n hx hb (show decode cL_law 1417 = .ok (.aload_n 1, 1) by decide +kernel) rfl (lv_at hl 1 rfl) ?_
  refine l_scr (pc := 1418) h hX hbl hbA hS hl hL (c := 1) (by omega) (n := 1) rfl (by decide +kernel) (by decide +kernel) (by decide +kernel) (by decide +kernel) (by decide +kernel) ?_
  refine l_callV (pc := 1424) h zcX11_strike clX11 rfl mdX11_strike ⟨rfl, rfl, by decide, by decide⟩ ⟨wl_1233, wl_1234, wl_1235, wl_123, wl_1236⟩ (by decide +kernel) hroom (k := 11) (i := 0) (as := [.inl (xs (i + 1))]) (rs := []) (kC_strike hJ) (by decide) (by simp [zok]) rfl (Nat.le_of_ble_eq_true rfl) rfl hM hS hl (fun r M1 H1 locs1 hk1 hM1 hr1 hS1 => ?_)
  obtain ⟨rfl, hJ1⟩ := hk1
  refine lv_aload_n hx hb (show decode cL_law 1427 = .ok (.aload_n 2, 1) by decide +kernel) rfl (lv_at hl 2 rfl) ?_
  refine l_scr (pc := 1428) h hX hbl hbA hS1 hl hL (c := 1) (by omega) (n := 1) rfl (by decide +kernel) (by decide +kernel) (by decide +kernel) (by decide +kernel) (by decide +kernel) ?_
  refine l_callV (pc := 1434) h zcX12_strike clX12 rfl mdX12_strike ⟨rfl, rfl, by decide, by decide⟩ ⟨wl_2099, wl_2100, wl_2101, wl_139, wl_2102⟩ (by decide +kernel) hroom (k := 12) (i := 0) (as := [.inl (xs (i + 1))]) (rs := _) (kR_strike hJ1) (by decide) (by simp [zok]) rfl (Nat.le_of_ble_eq_true rfl) rfl hM1 hS1 hl (fun r M2 H2 locs2 hk2 hM2 hr2 hS2 => ?_)
  obtain ⟨rfl, hJ2⟩ := hk2
  refine lv_icmp_eq (tgt := 1654) hx hb (show decode cL_law 1437 = .ok (.if_icmp .eq 217, 3) by decide +kernel) (by decide) (fun _ => kk _ _ _ _ hJ2 hM2 hS2) (fun z => absurd rfl z)
set_option maxHeartbeats 4000000 in
theorem lc_known {G : zG} {X : zX} {Q : State → Prop} {kc ks : Nat} (h : zC G X YL) {b L i q3 : Nat} {xs : Nat → Int32} {A : aA} {M : zM} {H : Heap} {locs : List Loc} {arr : Array Slot} (hX : va_X b L xs X.2.2.1 X.2.2.1.heap) (hbl : b < X.2.2.1.heap.size) (hbA : ¬ zA G b) (hL : L ≤ 3072) (hi : i + 5 < L) (hroom : kc ≤ room_1.cells ∧ ks ≤ room_1.slots) (hl : lv_has arr 7 (lawV b (G.2.2.2.2 11 0) (G.2.2.2.2 12 0) q3 (nI i))) (hJ : JJ A M) (hM : zRep G M H) (hS : va_S (zA G) X.2.2.1.heap H locs) (kk : ∀ (A' : aA) (M' : zM) (H' : Heap) (locs' : List Loc), JJ A' M' → zRep G M' H' → va_S (zA G) X.2.2.1.heap H' locs' → zWL G X YL kc ks H' locs' Q (zFr X 1654 arr [])) : zWL G X YL kc ks H locs Q (zFr X 1442 arr []) := by
  obtain ⟨hx, hb, -⟩ := id h
  refine lv_aload_n hx hb (show decode cL_law 1442 = .ok (.aload_n 1, 1) by decide +kernel) rfl (lv_at hl 1 rfl) ?_
  refine l_scr (pc := 1443) h hX hbl hbA hS hl hL (c := 1) (by omega) (n := 1) rfl (by decide +kernel) (by decide +kernel) (by decide +kernel) (by decide +kernel) (by decide +kernel) ?_
  refine l_callV (pc := 1449) h zcX11_known clX11 rfl mdX11_known ⟨rfl, rfl, by decide, by decide⟩ ⟨wl_1242, wl_1243, wl_1244, wl_123, wl_1245⟩ (by decide +kernel) hroom (k := 11) (i := 0) (as := [.inl (xs (i + 1))]) (rs := []) (kC_known hJ) (by decide) (by simp [zok]) rfl (Nat.le_of_ble_eq_true rfl) rfl hM hS hl (fun r M1 H1 locs1 hk1 hM1 hr1 hS1 => ?_)
  obtain ⟨rfl, hJ1⟩ := hk1
  refine lv_aload_n hx hb (show decode cL_law 1452 = .ok (.aload_n 2, 1) by decide +kernel) rfl (lv_at hl 2 rfl) ?_
  refine l_scr (pc := 1453) h hX hbl hbA hS1 hl hL (c := 1) (by omega) (n := 1) rfl (by decide +kernel) (by decide +kernel) (by decide +kernel) (by decide +kernel) (by decide +kernel) ?_
  refine l_callV (pc := 1459) h zcX12_known clX12 rfl mdX12_known ⟨rfl, rfl, by decide, by decide⟩ ⟨wl_2103, wl_2104, wl_2105, wl_139, wl_2106⟩ (by decide +kernel) hroom (k := 12) (i := 0) (as := [.inl (xs (i + 1))]) (rs := _) (kR_known hJ1) (by decide) (by simp [zok]) rfl (Nat.le_of_ble_eq_true rfl) rfl hM1 hS1 hl (fun r M2 H2 locs2 hk2 hM2 hr2 hS2 => ?_)
  obtain ⟨rfl, hJ2⟩ := hk2
  refine lv_icmp_eq (tgt := 1654) hx hb (show decode cL_law 1462 = .ok (.if_icmp .eq 192, 3) by decide +kernel) (by decide) (fun _ => kk _ _ _ _ hJ2 hM2 hS2) (fun z => absurd rfl z)
set_option maxHeartbeats 4000000 in
theorem lc_colds {G : zG} {X : zX} {Q : State → Prop} {kc ks : Nat} (h : zC G X YL) {b L i q3 : Nat} {xs : Nat → Int32} {A : aA} {M : zM} {H : Heap} {locs : List Loc} {arr : Array Slot} (hX : va_X b L xs X.2.2.1 X.2.2.1.heap) (hbl : b < X.2.2.1.heap.size) (hbA : ¬ zA G b) (hL : L ≤ 3072) (hi : i + 5 < L) (hroom : kc ≤ room_1.cells ∧ ks ≤ room_1.slots) (hl : lv_has arr 7 (lawV b (G.2.2.2.2 11 0) (G.2.2.2.2 12 0) q3 (nI i))) (hJ : JJ A M) (hM : zRep G M H) (hS : va_S (zA G) X.2.2.1.heap H locs) (kk : ∀ (A' : aA) (M' : zM) (H' : Heap) (locs' : List Loc), JJ A' M' → zRep G M' H' → va_S (zA G) X.2.2.1.heap H' locs' → zWL G X YL kc ks H' locs' Q (zFr X 1654 arr [])) : zWL G X YL kc ks H locs Q (zFr X 1467 arr []) := by
  obtain ⟨hx, hb, -⟩ := id h
  refine lv_aload_n hx hb (show decode cL_law 1467 = .ok (.aload_n 1, 1) by decide +kernel) rfl (lv_at hl 1 rfl) ?_
  refine l_scr (pc := 1468) h hX hbl hbA hS hl hL (c := 1) (by omega) (n := 1) rfl (by decide +kernel) (by decide +kernel) (by decide +kernel) (by decide +kernel) (by decide +kernel) ?_
  refine l_callV (pc := 1474) h zcX11_colds clX11 rfl mdX11_colds ⟨rfl, rfl, by decide, by decide⟩ ⟨wl_1246, wl_1247, wl_1248, wl_123, wl_1249⟩ (by decide +kernel) hroom (k := 11) (i := 0) (as := [.inl (xs (i + 1))]) (rs := []) (kC_colds hJ) (by decide) (by simp [zok]) rfl (Nat.le_of_ble_eq_true rfl) rfl hM hS hl (fun r M1 H1 locs1 hk1 hM1 hr1 hS1 => ?_)
  obtain ⟨rfl, hJ1⟩ := hk1
  refine lv_aload_n hx hb (show decode cL_law 1477 = .ok (.aload_n 2, 1) by decide +kernel) rfl (lv_at hl 2 rfl) ?_
  refine l_scr (pc := 1478) h hX hbl hbA hS1 hl hL (c := 1) (by omega) (n := 1) rfl (by decide +kernel) (by decide +kernel) (by decide +kernel) (by decide +kernel) (by decide +kernel) ?_
  refine l_callV (pc := 1484) h zcX12_colds clX12 rfl mdX12_colds ⟨rfl, rfl, by decide, by decide⟩ ⟨wl_2107, wl_2108, wl_2109, wl_139, wl_2110⟩ (by decide +kernel) hroom (k := 12) (i := 0) (as := [.inl (xs (i + 1))]) (rs := _) (kR_colds hJ1) (by decide) (by simp [zok]) rfl (Nat.le_of_ble_eq_true rfl) rfl hM1 hS1 hl (fun r M2 H2 locs2 hk2 hM2 hr2 hS2 => ?_)
  obtain ⟨rfl, hJ2⟩ := hk2
  refine lv_icmp_eq (tgt := 1654) hx hb (show decode cL_law 1487 = .ok (.if_icmp .eq 167, 3) by decide +kernel) (by decide) (fun _ => kk _ _ _ _ hJ2 hM2 hS2) (fun z => absurd rfl z)
set_option maxHeartbeats 4000000 in
theorem lc_chance {G : zG} {X : zX} {Q : State → Prop} {kc ks : Nat} (h : zC G X YL) {b L i q3 : Nat} {xs : Nat → Int32} {A : aA} {M : zM} {H : Heap} {locs : List Loc} {arr : Array Slot} (hX : va_X b L xs X.2.2.1 X.2.2.1.heap) (hbl : b < X.2.2.1.heap.size) (hbA : ¬ zA G b) (hL : L ≤ 3072) (hi : i + 5 < L) (hroom : kc ≤ room_1.cells ∧ ks ≤ room_1.slots) (hl : lv_has arr 7 (lawV b (G.2.2.2.2 11 0) (G.2.2.2.2 12 0) q3 (nI i))) (hJ : JJ A M) (hM : zRep G M H) (hS : va_S (zA G) X.2.2.1.heap H locs) (kk : ∀ (A' : aA) (M' : zM) (H' : Heap) (locs' : List Loc), JJ A' M' → zRep G M' H' → va_S (zA G) X.2.2.1.heap H' locs' → zWL G X YL kc ks H' locs' Q (zFr X 1654 arr [])) : zWL G X YL kc ks H locs Q (zFr X 1492 arr []) := by
  obtain ⟨hx, hb, -⟩ := id h
  refine lv_aload_n hx hb (show decode cL_law 1492 = .ok (.aload_n 1, 1) by decide +kernel) rfl (lv_at hl 1 rfl) ?_
  refine l_scr (pc := 1493) h hX hbl hbA hS hl hL (c := 1) (by omega) (n := 1) rfl (by decide +kernel) (by decide +kernel) (by decide +kernel) (by decide +kernel) (by decide +kernel) ?_
  refine l_scr (pc := 1499) h hX hbl hbA hS hl hL (c := 2) (by omega) (n := 2) rfl (by decide +kernel) (by decide +kernel) (by decide +kernel) (by decide +kernel) (by decide +kernel) ?_
  refine l_scr (pc := 1505) h hX hbl hbA hS hl hL (c := 3) (by omega) (n := 3) rfl (by decide +kernel) (by decide +kernel) (by decide +kernel) (by decide +kernel) (by decide +kernel) ?_
  refine l_callV (pc := 1511) h zcX11_chance clX11 rfl mdX11_chance ⟨rfl, rfl, by decide, by decide⟩ ⟨wl_1272, wl_1273, wl_1274, wl_123, wl_1275⟩ (by decide +kernel) hroom (k := 11) (i := 0) (as := [.inl (xs (i + 1)), .inl (xs (i + 2)), .inl (xs (i + 3))]) (rs := []) (kC_chance hJ) (by decide) (by simp [zok]) rfl (Nat.le_of_ble_eq_true rfl) rfl hM hS hl (fun r M1 H1 locs1 hk1 hM1 hr1 hS1 => ?_)
  obtain ⟨rfl, hJ1⟩ := hk1
  refine lv_aload_n hx hb (show decode cL_law 1514 = .ok (.aload_n 2, 1) by decide +kernel) rfl (lv_at hl 2 rfl) ?_
  refine l_scr (pc := 1515) h hX hbl hbA hS1 hl hL (c := 1) (by omega) (n := 1) rfl (by decide +kernel) (by decide +kernel) (by decide +kernel) (by decide +kernel) (by decide +kernel) ?_
  refine l_scr (pc := 1521) h hX hbl hbA hS1 hl hL (c := 2) (by omega) (n := 2) rfl (by decide +kernel) (by decide +kernel) (by decide +kernel) (by decide +kernel) (by decide +kernel) ?_
  refine l_scr (pc := 1527) h hX hbl hbA hS1 hl hL (c := 3) (by omega) (n := 3) rfl (by decide +kernel) (by decide +kernel) (by decide +kernel) (by decide +kernel) (by decide +kernel) ?_
  refine l_callV (pc := 1533) h zcX12_chance clX12 rfl mdX12_chance ⟨rfl, rfl, by decide, by decide⟩ ⟨wl_2119, wl_2120, wl_2121, wl_139, wl_2122⟩ (by decide +kernel) hroom (k := 12) (i := 0) (as := [.inl (xs (i + 1)), .inl (xs (i + 2)), .inl (xs (i + 3))]) (rs := _) (kR_chance hJ1) (by decide) (by simp [zok]) rfl (Nat.le_of_ble_eq_true rfl) rfl hM1 hS1 hl (fun r M2 H2 locs2 hk2 hM2 hr2 hS2 => ?_)
  obtain ⟨rfl, hJ2⟩ := hk2
  refine lv_icmp_eq (tgt := 1654) hx hb (show decode cL_law 1536 = .ok (.if_icmp .eq 118, 3) by decide +kernel) (by decide) (fun _ => kk _ _ _ _ hJ2 hM2 hS2) (fun z => absurd rfl z)
set_option maxHeartbeats 4000000 in
theorem lc_tried {G : zG} {X : zX} {Q : State → Prop} {kc ks : Nat} (h : zC G X YL) {b L i q3 : Nat} {xs : Nat → Int32} {A : aA} {M : zM} {H : Heap} {locs : List Loc} {arr : Array Slot} (hX : va_X b L xs X.2.2.1 X.2.2.1.heap) (hbl : b < X.2.2.1.heap.size) (hbA : ¬ zA G b) (hL : L ≤ 3072) (hi : i + 5 < L) (hroom : kc ≤ room_1.cells ∧ ks ≤ room_1.slots) (hl : lv_has arr 7 (lawV b (G.2.2.2.2 11 0) (G.2.2.2.2 12 0) q3 (nI i))) (hJ : JJ A M) (hM : zRep G M H) (hS : va_S (zA G) X.2.2.1.heap H locs) (kk : ∀ (A' : aA) (M' : zM) (H' : Heap) (locs' : List Loc), JJ A' M' → zRep G M' H' → va_S (zA G) X.2.2.1.heap H' locs' → zWL G X YL kc ks H' locs' Q (zFr X 1654 arr [])) : zWL G X YL kc ks H locs Q (zFr X 1541 arr []) := by
  obtain ⟨hx, hb, -⟩ := id h
  refine lv_aload_n hx hb (show decode cL_law 1541 = .ok (.aload_n 1, 1) by decide +kernel) rfl (lv_at hl 1 rfl) ?_
  refine l_scr (pc := 1542) h hX hbl hbA hS hl hL (c := 1) (by omega) (n := 1) rfl (by decide +kernel) (by decide +kernel) (by decide +kernel) (by decide +kernel) (by decide +kernel) ?_
  refine l_scr (pc := 1548) h hX hbl hbA hS hl hL (c := 2) (by omega) (n := 2) rfl (by decide +kernel) (by decide +kernel) (by decide +kernel) (by decide +kernel) (by decide +kernel) ?_
  refine l_scr (pc := 1554) h hX hbl hbA hS hl hL (c := 3) (by omega) (n := 3) rfl (by decide +kernel) (by decide +kernel) (by decide +kernel) (by decide +kernel) (by decide +kernel) ?_
  refine l_callV (pc := 1560) h zcX11_tried clX11 rfl mdX11_tried ⟨rfl, rfl, by decide, by decide⟩ ⟨wl_1276, wl_1277, wl_1278, wl_123, wl_1279⟩ (by decide +kernel) hroom (k := 11) (i := 0) (as := [.inl (xs (i + 1)), .inl (xs (i + 2)), .inl (xs (i + 3))]) (rs := []) (kC_tried hJ) (by decide) (by simp [zok]) rfl (Nat.le_of_ble_eq_true rfl) rfl hM hS hl (fun r M1 H1 locs1 hk1 hM1 hr1 hS1 => ?_)
  obtain ⟨rfl, hJ1⟩ := hk1
  refine lv_aload_n hx hb (show decode cL_law 1563 = .ok (.aload_n 2, 1) by decide +kernel) rfl (lv_at hl 2 rfl) ?_
  refine l_scr (pc := 1564) h hX hbl hbA hS1 hl hL (c := 1) (by omega) (n := 1) rfl (by decide +kernel) (by decide +kernel) (by decide +kernel) (by decide +kernel) (by decide +kernel) ?_
  refine l_scr (pc := 1570) h hX hbl hbA hS1 hl hL (c := 2) (by omega) (n := 2) rfl (by decide +kernel) (by decide +kernel) (by decide +kernel) (by decide +kernel) (by decide +kernel) ?_
  refine l_scr (pc := 1576) h hX hbl hbA hS1 hl hL (c := 3) (by omega) (n := 3) rfl (by decide +kernel) (by decide +kernel) (by decide +kernel) (by decide +kernel) (by decide +kernel) ?_
  refine l_callV (pc := 1582) h zcX12_tried clX12 rfl mdX12_tried ⟨rfl, rfl, by decide, by decide⟩ ⟨wl_2123, wl_2124, wl_2125, wl_139, wl_2126⟩ (by decide +kernel) hroom (k := 12) (i := 0) (as := [.inl (xs (i + 1)), .inl (xs (i + 2)), .inl (xs (i + 3))]) (rs := _) (kR_tried hJ1) (by decide) (by simp [zok]) rfl (Nat.le_of_ble_eq_true rfl) rfl hM1 hS1 hl (fun r M2 H2 locs2 hk2 hM2 hr2 hS2 => ?_)
  obtain ⟨rfl, hJ2⟩ := hk2
  refine lv_icmp_eq (tgt := 1654) hx hb (show decode cL_law 1585 = .ok (.if_icmp .eq 69, 3) by decide +kernel) (by decide) (fun _ => kk _ _ _ _ hJ2 hM2 hS2) (fun z => absurd rfl z)
set_option maxHeartbeats 4000000 in
theorem lc_undo {G : zG} {X : zX} {Q : State → Prop} {kc ks : Nat} (h : zC G X YL) {b L i q3 : Nat} {xs : Nat → Int32} {A : aA} {M : zM} {H : Heap} {locs : List Loc} {arr : Array Slot} (hX : va_X b L xs X.2.2.1 X.2.2.1.heap) (hbl : b < X.2.2.1.heap.size) (hbA : ¬ zA G b) (hL : L ≤ 3072) (hi : i + 5 < L) (hroom : kc ≤ room_1.cells ∧ ks ≤ room_1.slots) (hl : lv_has arr 7 (lawV b (G.2.2.2.2 11 0) (G.2.2.2.2 12 0) q3 (nI i))) (hJ : JJ A M) (hM : zRep G M H) (hS : va_S (zA G) X.2.2.1.heap H locs) (kk : ∀ (A' : aA) (M' : zM) (H' : Heap) (locs' : List Loc), JJ A' M' → zRep G M' H' → va_S (zA G) X.2.2.1.heap H' locs' → zWL G X YL kc ks H' locs' Q (zFr X 1654 arr [])) : zWL G X YL kc ks H locs Q (zFr X 1590 arr []) := by
  obtain ⟨hx, hb, -⟩ := id h
  refine lv_aload_n hx hb (show decode cL_law 1590 = .ok (.aload_n 1, 1) by decide +kernel) rfl (lv_at hl 1 rfl) ?_
  refine l_callV (pc := 1591) h zcX11_undo clX11 rfl mdX11_undo ⟨rfl, rfl, by decide, by decide⟩ ⟨wl_1292, wl_1293, wl_1294, wl_123, wl_1295⟩ (by decide +kernel) hroom (k := 11) (i := 0) (as := []) (rs := []) (kC_undo hJ) (by decide) (by simp [zok]) rfl (Nat.le_of_ble_eq_true rfl) rfl hM hS hl (fun r M1 H1 locs1 hk1 hM1 hr1 hS1 => ?_)
  obtain ⟨rfl, hJ1⟩ := hk1
  refine lv_aload_n hx hb (show decode cL_law 1594 = .ok (.aload_n 2, 1) by decide +kernel) rfl (lv_at hl 2 rfl) ?_
  refine l_callV (pc := 1595) h zcX12_undo clX12 rfl mdX12_undo ⟨rfl, rfl, by decide, by decide⟩ ⟨wl_2127, wl_2128, wl_2129, wl_139, wl_2130⟩ (by decide +kernel) hroom (k := 12) (i := 0) (as := []) (rs := _) (kR_undo hJ1) (by decide) (by simp [zok]) rfl (Nat.le_of_ble_eq_true rfl) rfl hM1 hS1 hl (fun r M2 H2 locs2 hk2 hM2 hr2 hS2 => ?_)
  obtain ⟨rfl, hJ2⟩ := hk2
  refine lv_icmp_eq (tgt := 1654) hx hb (show decode cL_law 1598 = .ok (.if_icmp .eq 56, 3) by decide +kernel) (by decide) (fun _ => kk _ _ _ _ hJ2 hM2 hS2) (fun z => absurd rfl z)
set_option maxHeartbeats 4000000 in
theorem lc_keep {G : zG} {X : zX} {Q : State → Prop} {kc ks : Nat} (h : zC G X YL) {b L i q3 : Nat} {xs : Nat → Int32} {A : aA} {M : zM} {H : Heap} {locs : List Loc} {arr : Array Slot} (hX : va_X b L xs X.2.2.1 X.2.2.1.heap) (hbl : b < X.2.2.1.heap.size) (hbA : ¬ zA G b) (hL : L ≤ 3072) (hi : i + 5 < L) (hroom : kc ≤ room_1.cells ∧ ks ≤ room_1.slots) (hl : lv_has arr 7 (lawV b (G.2.2.2.2 11 0) (G.2.2.2.2 12 0) q3 (nI i))) (hJ : JJ A M) (hM : zRep G M H) (hS : va_S (zA G) X.2.2.1.heap H locs) (kk : ∀ (A' : aA) (M' : zM) (H' : Heap) (locs' : List Loc), JJ A' M' → zRep G M' H' → va_S (zA G) X.2.2.1.heap H' locs' → zWL G X YL kc ks H' locs' Q (zFr X 1654 arr [])) : zWL G X YL kc ks H locs Q (zFr X 1603 arr []) := by
  obtain ⟨hx, hb, -⟩ := id h
  refine lv_aload_n hx hb (show decode cL_law 1603 = .ok (.aload_n 1, 1) by decide +kernel) rfl (lv_at hl 1 rfl) ?_
  refine l_callV (pc := 1604) h zcX11_keep clX11 rfl mdX11_keep ⟨rfl, rfl, by decide, by decide⟩ ⟨wl_1300, wl_1301, wl_1302, wl_123, wl_1303⟩ (by decide +kernel) hroom (k := 11) (i := 0) (as := []) (rs := []) (kC_keep hJ) (by decide) (by simp [zok]) rfl (Nat.le_of_ble_eq_true rfl) rfl hM hS hl (fun r M1 H1 locs1 hk1 hM1 hr1 hS1 => ?_)
  obtain ⟨rfl, hJ1⟩ := hk1
  refine lv_aload_n hx hb (show decode cL_law 1607 = .ok (.aload_n 2, 1) by decide +kernel) rfl (lv_at hl 2 rfl) ?_
  refine l_callV (pc := 1608) h zcX12_keep clX12 rfl mdX12_keep ⟨rfl, rfl, by decide, by decide⟩ ⟨wl_2135, wl_2136, wl_2137, wl_139, wl_2138⟩ (by decide +kernel) hroom (k := 12) (i := 0) (as := []) (rs := _) (kR_keep hJ1) (by decide) (by simp [zok]) rfl (Nat.le_of_ble_eq_true rfl) rfl hM1 hS1 hl (fun r M2 H2 locs2 hk2 hM2 hr2 hS2 => ?_)
  obtain ⟨rfl, hJ2⟩ := hk2
  refine lv_icmp_eq (tgt := 1654) hx hb (show decode cL_law 1611 = .ok (.if_icmp .eq 43, 3) by decide +kernel) (by decide) (fun _ => kk _ _ _ _ hJ2 hM2 hS2) (fun z => absurd rfl z)
set_option maxHeartbeats 4000000 in
theorem lc_back {G : zG} {X : zX} {Q : State → Prop} {kc ks : Nat} (h : zC G X YL) {b L i q3 : Nat} {xs : Nat → Int32} {A : aA} {M : zM} {H : Heap} {locs : List Loc} {arr : Array Slot} (hX : va_X b L xs X.2.2.1 X.2.2.1.heap) (hbl : b < X.2.2.1.heap.size) (hbA : ¬ zA G b) (hL : L ≤ 3072) (hi : i + 5 < L) (hroom : kc ≤ room_1.cells ∧ ks ≤ room_1.slots) (hl : lv_has arr 7 (lawV b (G.2.2.2.2 11 0) (G.2.2.2.2 12 0) q3 (nI i))) (hJ : JJ A M) (hM : zRep G M H) (hS : va_S (zA G) X.2.2.1.heap H locs) (kk : ∀ (A' : aA) (M' : zM) (H' : Heap) (locs' : List Loc), JJ A' M' → zRep G M' H' → va_S (zA G) X.2.2.1.heap H' locs' → zWL G X YL kc ks H' locs' Q (zFr X 1654 arr [])) : zWL G X YL kc ks H locs Q (zFr X 1616 arr []) := by
  obtain ⟨hx, hb, -⟩ := id h
  refine lv_aload_n hx hb (show decode cL_law 1616 = .ok (.aload_n 1, 1) by decide +kernel) rfl (lv_at hl 1 rfl) ?_
  refine l_callV (pc := 1617) h zcX11_back clX11 rfl mdX11_back ⟨rfl, rfl, by decide, by decide⟩ ⟨wl_1304, wl_1305, wl_1306, wl_123, wl_1307⟩ (by decide +kernel) hroom (k := 11) (i := 0) (as := []) (rs := []) (kC_back hJ) (by decide) (by simp [zok]) rfl (Nat.le_of_ble_eq_true rfl) rfl hM hS hl (fun r M1 H1 locs1 hk1 hM1 hr1 hS1 => ?_)
  obtain ⟨rfl, hJ1⟩ := hk1
  refine lv_aload_n hx hb (show decode cL_law 1620 = .ok (.aload_n 2, 1) by decide +kernel) rfl (lv_at hl 2 rfl) ?_
  refine l_callV (pc := 1621) h zcX12_back clX12 rfl mdX12_back ⟨rfl, rfl, by decide, by decide⟩ ⟨wl_2139, wl_2140, wl_2141, wl_139, wl_2142⟩ (by decide +kernel) hroom (k := 12) (i := 0) (as := []) (rs := _) (kR_back hJ1) (by decide) (by simp [zok]) rfl (Nat.le_of_ble_eq_true rfl) rfl hM1 hS1 hl (fun r M2 H2 locs2 hk2 hM2 hr2 hS2 => ?_)
  obtain ⟨rfl, hJ2⟩ := hk2
  refine lv_icmp_eq (tgt := 1654) hx hb (show decode cL_law 1624 = .ok (.if_icmp .eq 30, 3) by decide +kernel) (by decide) (fun _ => kk _ _ _ _ hJ2 hM2 hS2) (fun z => absurd rfl z)
set_option maxHeartbeats 4000000 in
theorem lc_count {G : zG} {X : zX} {Q : State → Prop} {kc ks : Nat} (h : zC G X YL) {b L i q3 : Nat} {xs : Nat → Int32} {A : aA} {M : zM} {H : Heap} {locs : List Loc} {arr : Array Slot} (hX : va_X b L xs X.2.2.1 X.2.2.1.heap) (hbl : b < X.2.2.1.heap.size) (hbA : ¬ zA G b) (hL : L ≤ 3072) (hi : i + 5 < L) (hroom : kc ≤ room_1.cells ∧ ks ≤ room_1.slots) (hl : lv_has arr 7 (lawV b (G.2.2.2.2 11 0) (G.2.2.2.2 12 0) q3 (nI i))) (hJ : JJ A M) (hM : zRep G M H) (hS : va_S (zA G) X.2.2.1.heap H locs) (kk : ∀ (A' : aA) (M' : zM) (H' : Heap) (locs' : List Loc), JJ A' M' → zRep G M' H' → va_S (zA G) X.2.2.1.heap H' locs' → zWL G X YL kc ks H' locs' Q (zFr X 1654 arr [])) : zWL G X YL kc ks H locs Q (zFr X 1629 arr []) := by
  obtain ⟨hx, hb, -⟩ := id h
  refine lv_aload_n hx hb (show decode cL_law 1629 = .ok (.aload_n 1, 1) by decide +kernel) rfl (lv_at hl 1 rfl) ?_
  refine l_scr (pc := 1630) h hX hbl hbA hS hl hL (c := 1) (by omega) (n := 1) rfl (by decide +kernel) (by decide +kernel) (by decide +kernel) (by decide +kernel) (by decide +kernel) ?_
  refine l_callV (pc := 1636) h zcX11_count clX11 rfl mdX11_count ⟨rfl, rfl, by decide, by decide⟩ ⟨wl_1308, wl_1309, wl_1310, wl_123, wl_1311⟩ (by decide +kernel) hroom (k := 11) (i := 0) (as := [.inl (xs (i + 1))]) (rs := []) (kC_count hJ) (by decide) (by simp [zok]) rfl (Nat.le_of_ble_eq_true rfl) rfl hM hS hl (fun r M1 H1 locs1 hk1 hM1 hr1 hS1 => ?_)
  obtain ⟨rfl, hJ1⟩ := hk1
  refine lv_aload_n hx hb (show decode cL_law 1639 = .ok (.aload_n 2, 1) by decide +kernel) rfl (lv_at hl 2 rfl) ?_
  refine l_scr (pc := 1640) h hX hbl hbA hS1 hl hL (c := 1) (by omega) (n := 1) rfl (by decide +kernel) (by decide +kernel) (by decide +kernel) (by decide +kernel) (by decide +kernel) ?_
  refine l_callV (pc := 1646) h zcX12_count clX12 rfl mdX12_count ⟨rfl, rfl, by decide, by decide⟩ ⟨wl_2143, wl_2144, wl_2145, wl_139, wl_2146⟩ (by decide +kernel) hroom (k := 12) (i := 0) (as := [.inl (xs (i + 1))]) (rs := _) (kR_count hJ1) (by decide) (by simp [zok]) rfl (Nat.le_of_ble_eq_true rfl) rfl hM1 hS1 hl (fun r M2 H2 locs2 hk2 hM2 hr2 hS2 => ?_)
  obtain ⟨rfl, hJ2⟩ := hk2
  refine lv_icmp_eq (tgt := 1654) hx hb (show decode cL_law 1649 = .ok (.if_icmp .eq 5, 3) by decide +kernel) (by decide) (fun _ => kk _ _ _ _ hJ2 hM2 hS2) (fun z => absurd rfl z)
