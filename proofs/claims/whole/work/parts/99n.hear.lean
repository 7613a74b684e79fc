theorem wl_122 : Cond.initialized RL ∈ zgw := zgw_1 0 rfl rfl
theorem wl_1225 : Cond.methodLink "KnockBankLaw" 159 ⟨"KnockBank", "hear", "(IIZ)I"⟩ ∈ zgw := zgw_5 143 rfl rfl
theorem wl_1226 : Cond.instanceMethod ⟨"KnockBank", "hear", "(IIZ)I"⟩ ∈ zgw := zgw_5 144 rfl rfl
theorem wl_1227 : Cond.selects "KnockBank" ⟨"KnockBank", "hear", "(IIZ)I"⟩ ⟨"KnockBank", "hear", "(IIZ)I"⟩ ∈ zgw := zgw_5 145 rfl rfl
theorem wl_1228 : Cond.code ⟨"KnockBank", "hear", "(IIZ)I"⟩ prog_1_method_38_code 4 (some .int) ∈ zgw := zgw_5 146 rfl rfl
theorem wl_1312 : Cond.methodLink RL 39 yL_rap ∈ zgw := zgw_5 230 rfl rfl
theorem wl_1313 : Cond.static yL_rap ∈ zgw := zgw_5 231 rfl rfl
theorem wl_1670 : Cond.methodLink "KnockBankLaw" 45 ⟨"KnockBankModel", "thrown", "()I"⟩ ∈ zgw := zgw_7 108 rfl rfl
theorem wl_1671 : Cond.instanceMethod ⟨"KnockBankModel", "thrown", "()I"⟩ ∈ zgw := zgw_7 109 rfl rfl
theorem wl_1672 : Cond.selects "KnockBankModel" ⟨"KnockBankModel", "thrown", "()I"⟩ ⟨"KnockBankModel", "thrown", "()I"⟩ ∈ zgw := zgw_7 110 rfl rfl
theorem wl_1673 : Cond.code ⟨"KnockBankModel", "thrown", "()I"⟩ prog_14_method_2_code 1 (some .int) ∈ zgw := zgw_7 111 rfl rfl
theorem wl_1804 : Cond.methodLink "KnockBankLaw" 44 ⟨"KnockBankModel", "rap", "(II)I"⟩ ∈ zgw := zgw_8 2 rfl rfl
theorem wl_1805 : Cond.instanceMethod ⟨"KnockBankModel", "rap", "(II)I"⟩ ∈ zgw := zgw_8 3 rfl rfl
theorem wl_1806 : Cond.selects "KnockBankModel" ⟨"KnockBankModel", "rap", "(II)I"⟩ ⟨"KnockBankModel", "rap", "(II)I"⟩ ∈ zgw := zgw_8 4 rfl rfl
theorem wl_1807 : Cond.code ⟨"KnockBankModel", "rap", "(II)I"⟩ prog_14_method_73_code 3 (some .int) ∈ zgw := zgw_8 5 rfl rfl
theorem wl_2091 : Cond.methodLink "KnockBankLaw" 163 ⟨"KnockBankModel", "hear", "(IIZ)I"⟩ ∈ zgw := zgw_9 49 rfl rfl
theorem wl_2092 : Cond.instanceMethod ⟨"KnockBankModel", "hear", "(IIZ)I"⟩ ∈ zgw := zgw_9 50 rfl rfl
theorem wl_2093 : Cond.selects "KnockBankModel" ⟨"KnockBankModel", "hear", "(IIZ)I"⟩ ⟨"KnockBankModel", "hear", "(IIZ)I"⟩ ∈ zgw := zgw_9 51 rfl rfl
theorem wl_2094 : Cond.code ⟨"KnockBankModel", "hear", "(IIZ)I"⟩ prog_14_method_113_code 4 (some .int) ∈ zgw := zgw_9 52 rfl rfl
-- the third argument of hear: script[i + 3] != 0
theorem l_bool {G : zG} {X : zX} {Q : State → Prop} {kc ks pc : Nat} (h : zC G X YL) {H : Heap} {locs : List Loc} {arr : Array Slot} {st : List Value} {y w : Int32} (hw : w = if y = 0 then 0 else 1) (d1 : decode cL_law pc = .ok (.ifCond .eq 7, 3)) (d2 : decode cL_law (pc + 3) = .ok (.iconst 1, 1)) (d3 : decode cL_law (pc + 4) = .ok (.goto 4, 3)) (d4 : decode cL_law (pc + 7) = .ok (.iconst 0, 1)) (kk : zWL G X YL kc ks H locs Q (zFr X (pc + 8) arr (.int w :: st))) : zWL G X YL kc ks H locs Q (zFr X pc arr (.int y :: st)) := by
  obtain ⟨hx, hb, -⟩ := id h
  refine lv_if_eq (tgt := pc + 7) hx hb d1 (by omega) (fun c => ?_) (fun c => ?_)
  · refine lv_iconst (v := 0) hx hb d4 (by decide) ?_
    rw [hw, if_pos c] at kk
    exact kk
  · refine lv_iconst (v := 1) hx hb d2 (by decide) ?_
    refine lv_goto (tgt := pc + 8) hx hb d3 (by omega) ?_
    rw [hw, if_neg c] at kk
    exact kk
set_option maxHeartbeats 4000000 in
theorem lc_hear {G : zG} {X : zX} {Q : State → Prop} {kc ks : Nat} (h : zC G X YL) {b L i q3 : Nat} {xs : Nat → Int32} {A : aA} {M : zM} {H : Heap} {locs : List Loc} {arr : Array Slot} (hX : va_X b L xs X.2.2.1 X.2.2.1.heap) (hbl : b < X.2.2.1.heap.size) (hbA : ¬ zA G b) (hL : L ≤ 3072) (hi : i + 5 < L) (hroom : kc ≤ room_1.cells ∧ ks ≤ room_1.slots) (hl : lv_has arr 7 (lawV b (G.2.2.2.2 11 0) (G.2.2.2.2 12 0) q3 (nI i))) (hJ : JJ A M) (hM : zRep G M H) (hS : va_S (zA G) X.2.2.1.heap H locs) (kk : ∀ (A' : aA) (M' : zM) (H' : Heap) (locs' : List Loc), JJ A' M' → zRep G M' H' → va_S (zA G) X.2.2.1.heap H' locs' → zWL G X YL kc ks H' locs' Q (zFr X 1654 arr [])) : zWL G X YL kc ks H locs Q (zFr X 1352 arr []) := by
  obtain ⟨hx, hb, -⟩ := id h
  obtain ⟨w, ew⟩ : ∃ w : Int32, w = if xs (i + 3) = 0 then 0 else 1 := ⟨_, rfl⟩
  have hw : zb w := by
    rw [ew]
    by_cases c : xs (i + 3) = 0
    · rw [if_pos c]; exact Or.inl rfl
    · rw [if_neg c]; exact Or.inr rfl
  refine lv_aload_n hx hb (show decode cL_law 1352 = .ok (.aload_n 1, 1) by decide +kernel) rfl (lv_at hl 1 rfl) ?_
  refine l_scr (pc := 1353) h hX hbl hbA hS hl hL (c := 1) (by omega) (n := 1) rfl (by decide +kernel) (by decide +kernel) (by decide +kernel) (by decide +kernel) (by decide +kernel) ?_
  refine l_scr (pc := 1359) h hX hbl hbA hS hl hL (c := 2) (by omega) (n := 2) rfl (by decide +kernel) (by decide +kernel) (by decide +kernel) (by decide +kernel) (by decide +kernel) ?_
  refine l_scr (pc := 1365) h hX hbl hbA hS hl hL (c := 3) (by omega) (n := 3) rfl (by decide +kernel) (by decide +kernel) (by decide +kernel) (by decide +kernel) (by decide +kernel) ?_
  refine l_bool (pc := 1371) h ew (by decide +kernel) (by decide +kernel) (by decide +kernel) (by decide +kernel) ?_
  refine l_callV (pc := 1379) h zcX11_hear clX11 rfl mdX11_hear ⟨rfl, rfl, by decide, by decide⟩ ⟨wl_1225, wl_1226, wl_1227, wl_123, wl_1228⟩ (by decide +kernel) hroom (k := 11) (i := 0) (as := [.inl (xs (i + 1)), .inl (xs (i + 2)), .inl w]) (rs := []) (kC_hear hw hJ) (by decide) (by simp [zok]) rfl (Nat.le_of_ble_eq_true rfl) rfl hM hS hl (fun r M1 H1 locs1 hk1 hM1 hr1 hS1 => ?_)
  obtain ⟨rfl, hJ1⟩ := hk1
  refine lv_aload_n hx hb (show decode cL_law 1382 = .ok (.aload_n 2, 1) by decide +kernel) rfl (lv_at hl 2 rfl) ?_
  refine l_scr (pc := 1383) h hX hbl hbA hS1 hl hL (c := 1) (by omega) (n := 1) rfl (by decide +kernel) (by decide +kernel) (by decide +kernel) (by decide +kernel) (by decide +kernel) ?_
  refine l_scr (pc := 1389) h hX hbl hbA hS1 hl hL (c := 2) (by omega) (n := 2) rfl (by decide +kernel) (by decide +kernel) (by decide +kernel) (by decide +kernel) (by decide +kernel) ?_
  refine l_scr (pc := 1395) h hX hbl hbA hS1 hl hL (c := 3) (by omega) (n := 3) rfl (by decide +kernel) (by decide +kernel) (by decide +kernel) (by decide +kernel) (by decide +kernel) ?_
  refine l_bool (pc := 1401) h ew (by decide +kernel) (by decide +kernel) (by decide +kernel) (by decide +kernel) ?_
  refine l_callV (pc := 1409) h zcX12_hear clX12 rfl mdX12_hear ⟨rfl, rfl, by decide, by decide⟩ ⟨wl_2091, wl_2092, wl_2093, wl_139, wl_2094⟩ (by decide +kernel) hroom (k := 12) (i := 0) (as := [.inl (xs (i + 1)), .inl (xs (i + 2)), .inl w]) (rs := _) (kR_hear hw hJ1) (by decide) (by simp [zok]) rfl (Nat.le_of_ble_eq_true rfl) rfl hM1 hS1 hl (fun r M2 H2 locs2 hk2 hM2 hr2 hS2 => ?_)
  obtain ⟨rfl, hJ2⟩ := hk2
  refine lv_icmp_eq (tgt := 1654) hx hb (show decode cL_law 1412 = .ok (.if_icmp .eq 242, 3) by decide +kernel) (by decide) (fun _ => kk _ _ _ _ hJ2 hM2 hS2) (fun z => absurd rfl z)
