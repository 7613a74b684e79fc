-- THE LAW'S LOOP
theorem d_law40 : decode cL_law 40 = .ok (.tableswitch 1614 0 40 #[180, 253, 278, 303, 340, 408, 445, 482, 544, 581, 630, 667, 692, 717, 754, 791, 816, 841, 878, 903, 953, 978, 1039, 1052, 1089, 1114, 1151, 1188, 1237, 1262, 1287, 1312, 1377, 1402, 1427, 1452, 1501, 1550, 1563, 1576, 1589], 180) := by decide +kernel
theorem l_cmp {i L : Nat} (hi : i < 100000) (hL : L ≤ 3072) : (Int32.ofNat L - 6 < nI i) ↔ L < i + 6 := by
  rw [Int32.lt_iff_toInt_lt, n_toInt (by omega), show Int32.ofNat L = nI L from rfl]
  have h6 : (nI L - 6).toInt = (L : Int) - 6 := by
    rw [Int32.toInt_sub, n_toInt (by omega), show (6 : Int32).toInt = 6 from rfl]
    rw [Int.bmod_eq_of_le] <;> omega
  rw [h6]
  omega
set_option maxHeartbeats 4000000 in
theorem l_case {G : zG} {X : zX} {Q : State → Prop} (h : zC G X YL) (hfl : G.1.stackTraces = false) (hE : zEx G X.2.2.1 X.2.2.1.heap) {b L : Nat} {xs : Nat → Int32} (hX : va_X b L xs X.2.2.1 X.2.2.1.heap) (hbl : b < X.2.2.1.heap.size) (hbA : ¬ zA G b) (hL : L ≤ 3072) {i kc ks : Nat} {A : aA} {M : zM} {H : Heap} {locs : List Loc} {arr : Array Slot} (hi : i + 5 < L) (hroom : kc + 1 ≤ room_1.cells ∧ ks + 6 ≤ room_1.slots) (hl : lv_has arr 7 (lawV b (G.2.2.2.2 11 0) (G.2.2.2.2 12 0) (G.2.2.2.2 94 0) (nI i))) (hJ : JJ A M) (hM : zRep G M H) (hS : va_S (zA G) X.2.2.1.heap H locs)
    (kk : ∀ (k2 s2 : Nat) (A' : aA) (M' : zM) (H' : Heap) (locs' : List Loc) (arr' : Array Slot), k2 ≤ kc + 1 → s2 ≤ ks + 6 → lv_has arr' 7 (lawV b (G.2.2.2.2 11 0) (G.2.2.2.2 12 0) (G.2.2.2.2 94 0) (nI i)) → JJ A' M' → zRep G M' H' → va_S (zA G) X.2.2.1.heap H' locs' → zWL G X YL k2 s2 H' locs' Q (zFr X 1654 arr' [])) (x : Int32) : zWL G X YL kc ks H locs Q (zFr X 40 arr [.int x]) := by
  obtain ⟨hx, hb, -⟩ := id h
  have hr2 : kc ≤ room_1.cells ∧ ks ≤ room_1.slots := ⟨by omega, by omega⟩
  have k1 : ∀ (A' : aA) (M' : zM) (H' : Heap) (locs' : List Loc), JJ A' M' → zRep G M' H' → va_S (zA G) X.2.2.1.heap H' locs' → zWL G X YL kc ks H' locs' Q (zFr X 1654 arr []) := fun A' M' H' locs' j1 j2 j3 => kk kc ks A' M' H' locs' arr (by omega) (by omega) hl j1 j2 j3
  by_cases out : x.toInt < 0 ∨ 40 < x.toInt
  · exact lv_tableOut hx hb d_law40 out (tgt := 1654) (by decide) (k1 _ _ _ _ hJ hM hS)
  have o1 : ¬ x.toInt < 0 := fun z => out (Or.inl z)
  have o2 : ¬ 40 < x.toInt := fun z => out (Or.inr z)
  obtain ⟨n, hn⟩ : ∃ n : Nat, x.toInt = n := ⟨x.toInt.toNat, by omega⟩
  have hn40 : n ≤ 40 := by omega
  rcases (show n = 0 ∨ n = 1 ∨ n = 2 ∨ n = 3 ∨ n = 4 ∨ n = 5 ∨ n = 6 ∨ n = 7 ∨ n = 8 ∨ n = 9 ∨ n = 10 ∨ n = 11 ∨ n = 12 ∨ n = 13 ∨ n = 14 ∨ n = 15 ∨ n = 16 ∨ n = 17 ∨ n = 18 ∨ n = 19 ∨ n = 20 ∨ n = 21 ∨ n = 22 ∨ n = 23 ∨ n = 24 ∨ n = 25 ∨ n = 26 ∨ n = 27 ∨ n = 28 ∨ n = 29 ∨ n = 30 ∨ n = 31 ∨ n = 32 ∨ n = 33 ∨ n = 34 ∨ n = 35 ∨ n = 36 ∨ n = 37 ∨ n = 38 ∨ n = 39 ∨ n = 40 by omega) with rfl | rfl | rfl | rfl | rfl | rfl | rfl | rfl | rfl | rfl | rfl | rfl | rfl | rfl | rfl | rfl | rfl | rfl | rfl | rfl | rfl | rfl | rfl | rfl | rfl | rfl | rfl | rfl | rfl | rfl | rfl | rfl | rfl | rfl | rfl | rfl | rfl | rfl | rfl | rfl | rfl
  · exact lv_tableIn hx hb d_law40 o1 o2 (off := 180) (tgt := 220) (by rw [hn]; rfl) (by decide) (lc_feed h hX hbl hbA hL hi hr2 hl hJ hM hS k1)
  · exact lv_tableIn hx hb d_law40 o1 o2 (off := 253) (tgt := 293) (by rw [hn]; rfl) (by decide) (lc_text h hX hbl hbA hL hi hr2 hl hJ hM hS k1)
  · exact lv_tableIn hx hb d_law40 o1 o2 (off := 278) (tgt := 318) (by rw [hn]; rfl) (by decide) (lc_fault h hX hbl hbA hL hi hr2 hl hJ hM hS k1)
  · exact lv_tableIn hx hb d_law40 o1 o2 (off := 303) (tgt := 343) (by rw [hn]; rfl) (by decide) (lc_named h hX hbl hbA hL hi hr2 hl hJ hM hS k1)
  · exact lv_tableIn hx hb d_law40 o1 o2 (off := 340) (tgt := 380) (by rw [hn]; rfl) (by decide) (lc_rap (q3 := 0) h hX hbl hbA hL hi hfl hE hroom hl hJ hM hS (fun A' M' H' locs' arr' j0 j1 j2 j3 => kk _ _ A' M' H' locs' arr' (Nat.le_refl _) (Nat.le_refl _) j0 j1 j2 j3))
  · exact lv_tableIn hx hb d_law40 o1 o2 (off := 408) (tgt := 448) (by rw [hn]; rfl) (by decide) (lc_hand h hX hbl hbA hL hi hr2 hl hJ hM hS k1)
  · exact lv_tableIn hx hb d_law40 o1 o2 (off := 445) (tgt := 485) (by rw [hn]; rfl) (by decide) (lc_wood h hX hbl hbA hL hi hr2 hl hJ hM hS k1)
  · exact lv_tableIn hx hb d_law40 o1 o2 (off := 482) (tgt := 522) (by rw [hn]; rfl) (by decide) (lc_law h hX hbl hbA hL hi hr2 hl hJ hM hS k1)
  · exact lv_tableIn hx hb d_law40 o1 o2 (off := 544) (tgt := 584) (by rw [hn]; rfl) (by decide) (lc_warm h hX hbl hbA hL hi hr2 hl hJ hM hS k1)
  · exact lv_tableIn hx hb d_law40 o1 o2 (off := 581) (tgt := 621) (by rw [hn]; rfl) (by decide) (lc_order h hX hbl hbA hL hi hr2 hl hJ hM hS k1)
  · exact lv_tableIn hx hb d_law40 o1 o2 (off := 630) (tgt := 670) (by rw [hn]; rfl) (by decide) (lc_sell h hX hbl hbA hL hi hr2 hl hJ hM hS k1)
  · exact lv_tableIn hx hb d_law40 o1 o2 (off := 667) (tgt := 707) (by rw [hn]; rfl) (by decide) (lc_plane h hX hbl hbA hL hi hr2 hl hJ hM hS k1)
  · exact lv_tableIn hx hb d_law40 o1 o2 (off := 692) (tgt := 732) (by rw [hn]; rfl) (by decide) (lc_days h hX hbl hbA hL hi hr2 hl hJ hM hS k1)
  · exact lv_tableIn hx hb d_law40 o1 o2 (off := 717) (tgt := 757) (by rw [hn]; rfl) (by decide) (lc_ahead h hX hbl hbA hL hi hr2 hl hJ hM hS k1)
  · exact lv_tableIn hx hb d_law40 o1 o2 (off := 754) (tgt := 794) (by rw [hn]; rfl) (by decide) (lc_apart h hX hbl hbA hL hi hr2 hl hJ hM hS k1)
  · exact lv_tableIn hx hb d_law40 o1 o2 (off := 791) (tgt := 831) (by rw [hn]; rfl) (by decide) (lc_nearest h hX hbl hbA hL hi hr2 hl hJ hM hS k1)
  · exact lv_tableIn hx hb d_law40 o1 o2 (off := 816) (tgt := 856) (by rw [hn]; rfl) (by decide) (lc_anew h hX hbl hbA hL hi hr2 hl hJ hM hS k1)
  · exact lv_tableIn hx hb d_law40 o1 o2 (off := 841) (tgt := 881) (by rw [hn]; rfl) (by decide) (lc_whose h hX hbl hbA hL hi hr2 hl hJ hM hS k1)
  · exact lv_tableIn hx hb d_law40 o1 o2 (off := 878) (tgt := 918) (by rw [hn]; rfl) (by decide) (lc_all h hX hbl hbA hL hi hr2 hl hJ hM hS k1)
  · exact lv_tableIn hx hb d_law40 o1 o2 (off := 903) (tgt := 943) (by rw [hn]; rfl) (by decide) (lc_likely h hX hbl hbA hL hi hr2 hl hJ hM hS k1)
  · exact lv_tableIn hx hb d_law40 o1 o2 (off := 953) (tgt := 993) (by rw [hn]; rfl) (by decide) (lc_surest h hX hbl hbA hL hi hr2 hl hJ hM hS k1)
  · exact lv_tableIn hx hb d_law40 o1 o2 (off := 978) (tgt := 1018) (by rw [hn]; rfl) (by decide) (lc_forge h hX hbl hbA hL hi hr2 hl hJ hM hS k1)
  · exact lv_tableIn hx hb d_law40 o1 o2 (off := 1039) (tgt := 1079) (by rw [hn]; rfl) (by decide) (lc_places h hX hbl hbA hL hi hr2 hl hJ hM hS k1)
  · exact lv_tableIn hx hb d_law40 o1 o2 (off := 1052) (tgt := 1092) (by rw [hn]; rfl) (by decide) (lc_joint h hX hbl hbA hL hi hr2 hl hJ hM hS k1)
  · exact lv_tableIn hx hb d_law40 o1 o2 (off := 1089) (tgt := 1129) (by rw [hn]; rfl) (by decide) (lc_holds h hX hbl hbA hL hi hr2 hl hJ hM hS k1)
  · exact lv_tableIn hx hb d_law40 o1 o2 (off := 1114) (tgt := 1154) (by rw [hn]; rfl) (by decide) (lc_will h hX hbl hbA hL hi hr2 hl hJ hM hS k1)
  · exact lv_tableIn hx hb d_law40 o1 o2 (off := 1151) (tgt := 1191) (by rw [hn]; rfl) (by decide) (lc_rests h hX hbl hbA hL hi hr2 hl hJ hM hS k1)
  · exact lv_tableIn hx hb d_law40 o1 o2 (off := 1188) (tgt := 1228) (by rw [hn]; rfl) (by decide) (lc_rest h hX hbl hbA hL hi hr2 hl hJ hM hS k1)
  · exact lv_tableIn hx hb d_law40 o1 o2 (off := 1237) (tgt := 1277) (by rw [hn]; rfl) (by decide) (lc_owns h hX hbl hbA hL hi hr2 hl hJ hM hS k1)
  · exact lv_tableIn hx hb d_law40 o1 o2 (off := 1262) (tgt := 1302) (by rw [hn]; rfl) (by decide) (lc_fading h hX hbl hbA hL hi hr2 hl hJ hM hS k1)
  · exact lv_tableIn hx hb d_law40 o1 o2 (off := 1287) (tgt := 1327) (by rw [hn]; rfl) (by decide) (lc_own h hX hbl hbA hL hi hr2 hl hJ hM hS k1)
  · exact lv_tableIn hx hb d_law40 o1 o2 (off := 1312) (tgt := 1352) (by rw [hn]; rfl) (by decide) (lc_hear h hX hbl hbA hL hi hr2 hl hJ hM hS k1)
  · exact lv_tableIn hx hb d_law40 o1 o2 (off := 1377) (tgt := 1417) (by rw [hn]; rfl) (by decide) (lc_strike h hX hbl hbA hL hi hr2 hl hJ hM hS k1)
  · exact lv_tableIn hx hb d_law40 o1 o2 (off := 1402) (tgt := 1442) (by rw [hn]; rfl) (by decide) (lc_known h hX hbl hbA hL hi hr2 hl hJ hM hS k1)
  · exact lv_tableIn hx hb d_law40 o1 o2 (off := 1427) (tgt := 1467) (by rw [hn]; rfl) (by decide) (lc_colds h hX hbl hbA hL hi hr2 hl hJ hM hS k1)
  · exact lv_tableIn hx hb d_law40 o1 o2 (off := 1452) (tgt := 1492) (by rw [hn]; rfl) (by decide) (lc_chance h hX hbl hbA hL hi hr2 hl hJ hM hS k1)
  · exact lv_tableIn hx hb d_law40 o1 o2 (off := 1501) (tgt := 1541) (by rw [hn]; rfl) (by decide) (lc_tried h hX hbl hbA hL hi hr2 hl hJ hM hS k1)
  · exact lv_tableIn hx hb d_law40 o1 o2 (off := 1550) (tgt := 1590) (by rw [hn]; rfl) (by decide) (lc_undo h hX hbl hbA hL hi hr2 hl hJ hM hS k1)
  · exact lv_tableIn hx hb d_law40 o1 o2 (off := 1563) (tgt := 1603) (by rw [hn]; rfl) (by decide) (lc_keep h hX hbl hbA hL hi hr2 hl hJ hM hS k1)
  · exact lv_tableIn hx hb d_law40 o1 o2 (off := 1576) (tgt := 1616) (by rw [hn]; rfl) (by decide) (lc_back h hX hbl hbA hL hi hr2 hl hJ hM hS k1)
  · exact lv_tableIn hx hb d_law40 o1 o2 (off := 1589) (tgt := 1629) (by rw [hn]; rfl) (by decide) (lc_count h hX hbl hbA hL hi hr2 hl hJ hM hS k1)
set_option maxHeartbeats 4000000 in
theorem law_loop {G : zG} {X : zX} {Q : State → Prop} (h : zC G X YL) (hfl : G.1.stackTraces = false) (hE : zEx G X.2.2.1 X.2.2.1.heap) {b L : Nat} {xs : Nat → Int32} (hX : va_X b L xs X.2.2.1 X.2.2.1.heap) (hbl : b < X.2.2.1.heap.size) (hbA : ¬ zA G b) (hL : L ≤ 3072) (kx : ∀ (kc ks : Nat) (H : Heap) (locs : List Loc) (arr : Array Slot), kc ≤ room_1.cells → ks ≤ room_1.slots → va_S (zA G) X.2.2.1.heap H locs → zWL G X YL kc ks H locs Q (zFr X 1660 arr [])) : ∀ (n i kc ks : Nat) (A : aA) (M : zM) (H : Heap) (locs : List Loc) (arr : Array Slot), i + 6 * n ≤ 4000 → L < i + 6 * n + 6 → kc + n ≤ room_1.cells → ks + 6 * n ≤ room_1.slots → lv_has arr 7 (lawV b (G.2.2.2.2 11 0) (G.2.2.2.2 12 0) (G.2.2.2.2 94 0) (nI i)) → JJ A M → zRep G M H → va_S (zA G) X.2.2.1.heap H locs → zWL G X YL kc ks H locs Q (zFr X 23 arr []) := by
  obtain ⟨hx, hb, -⟩ := id h
  intro n
  induction n with
  | zero =>
    intro i kc ks A M H locs arr hi hn hc hs hl hJ hM hS
    refine lv_iload hx hb (show decode cL_law 23 = .ok (.iload 4, 2) by decide +kernel) (lv_at hl 4 rfl) ?_
    refine lv_aload_n hx hb (show decode cL_law 25 = .ok (.aload_n 0, 1) by decide +kernel) rfl (lv_at hl 0 rfl) ?_
    refine va_slen hx hb hX hbl hbA hS (show decode cL_law 26 = .ok (.arraylength, 1) by decide +kernel) ?_
    refine lv_bipush (v := 6) hx hb (show decode cL_law 27 = .ok (.bipush 6, 2) by decide +kernel) (by decide) ?_
    refine lv_isub hx hb (show decode cL_law 29 = .ok (.isub, 1) by decide +kernel) ?_
    exact lv_icmp_gt (pc := 30) (tgt := 1660) hx hb (show decode cL_law 30 = .ok (.if_icmp .gt 1630, 3) by decide +kernel) (by decide) (fun _ => kx kc ks H locs arr (by omega) (by omega) hS) (fun z => absurd ((l_cmp (by omega) hL).mpr (by omega)) z)
  | succ n ih =>
    intro i kc ks A M H locs arr hi hn hc hs hl hJ hM hS
    refine lv_iload hx hb (show decode cL_law 23 = .ok (.iload 4, 2) by decide +kernel) (lv_at hl 4 rfl) ?_
    refine lv_aload_n hx hb (show decode cL_law 25 = .ok (.aload_n 0, 1) by decide +kernel) rfl (lv_at hl 0 rfl) ?_
    refine va_slen hx hb hX hbl hbA hS (show decode cL_law 26 = .ok (.arraylength, 1) by decide +kernel) ?_
    refine lv_bipush (v := 6) hx hb (show decode cL_law 27 = .ok (.bipush 6, 2) by decide +kernel) (by decide) ?_
    refine lv_isub hx hb (show decode cL_law 29 = .ok (.isub, 1) by decide +kernel) ?_
    refine lv_icmp_gt (pc := 30) (tgt := 1660) hx hb (show decode cL_law 30 = .ok (.if_icmp .gt 1630, 3) by decide +kernel) (by decide) (fun _ => kx kc ks H locs arr (by omega) (by omega) hS) (fun z => ?_)
    have hi5 : i + 5 < L := by
      have z2 : ¬ L < i + 6 := fun q => z ((l_cmp (i := i) (L := L) (by omega) hL).mpr q)
      omega
    refine lv_aload_n hx hb (show decode cL_law 33 = .ok (.aload_n 0, 1) by decide +kernel) rfl (lv_at hl 0 rfl) ?_
    refine lv_iload hx hb (show decode cL_law 34 = .ok (.iload 4, 2) by decide +kernel) (lv_at hl 4 rfl) ?_
    refine va_sld hx hb hX hbl hbA hS (vp_in_nI (by omega) (by omega)) (show decode cL_law 36 = .ok (.iaload, 1) by decide +kernel) ?_
    refine lv_bipush (v := 63) hx hb (show decode cL_law 37 = .ok (.bipush 63, 2) by decide +kernel) (by decide) ?_
    refine lv_iand hx hb (show decode cL_law 39 = .ok (.iand, 1) by decide +kernel) ?_
    refine l_case h hfl hE hX hbl hbA hL hi5 ⟨by omega, by omega⟩ hl hJ hM hS (fun k2 s2 A2 M2 H2 locs2 arr2 hk2 hs2 hl2 hJ2 hM2 hS2 => ?_) _
    refine lv_iinc (v := nI (i + 6)) (lv' := (4, .int (nI (i + 6))) :: [(0, .ref b), (1, .ref (G.2.2.2.2 11 0)), (2, .ref (G.2.2.2.2 12 0)), (3, .ref (G.2.2.2.2 94 0))]) hx hb (show decode cL_law 1654 = .ok (.iinc 4 6, 3) by decide +kernel) hl2 (k := 4) rfl (by rw [show Int32.ofInt 6 = nI 6 from rfl, n_add]) (by decide) rfl (fun arr3 hl3 => ?_)
    refine lv_goto (pc := 1657) (tgt := 23) hx hb (show decode cL_law 1657 = .ok (.goto (-1634), 3) by decide +kernel) (by decide) ?_
    exact ih (i + 6) k2 s2 A2 M2 H2 locs2 arr3 (by omega) (by omega) (by omega) (by omega) (lv_sub hl3 [1, 2, 3, 4, 0] rfl) hJ2 hM2 hS2
