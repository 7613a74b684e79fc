abbrev YX7_init : zY := (RX7, cX7_init, 5, none, { frames := 4, cells := 4, slots := 2122, locals := 110 })
set_option maxHeartbeats 4000000 in
theorem sc_loop {G : zG} {X : zX} {Q : State → Prop} {a : Nat} (h : iC G X YX7_init a)
    (kk : ∀ (H : Heap) (locs : List Loc) (arr : Array Slot), bS G X a (.inr (7, [.ref (a + 1), .ref (a + 2), .ref (a + 3), .ref (a + 4), .null, .int 0, .int 0, .int 0, .int 0, .int 0, .int 0, .int 0]) :: .inl (G.2.2.2.1 0, 19, .inl (fun j => (scG 89).2.2.getD j 0)) :: [.inl (G.2.2.2.1 0, 701, .inl (fun _ => 0)), .inl (G.2.2.2.1 0, 701, .inl (fun _ => 0)), .inl (G.2.2.2.1 0, 701, .inl (fun _ => 0))]) H locs → zWL G X YX7_init 4 2122 H locs Q (zFr X 107 arr [])) :
    ∀ (n i : Nat) (H : Heap) (locs : List Loc) (arr : Array Slot), i + n = 89 → lv_has arr 5 [(0, .ref a), (1, .int (nI (scG i).1)), (2, .int (nI (scG i).2.1)), (3, .int (nI i))] → bS G X a (.inr (7, [.ref (a + 1), .ref (a + 2), .ref (a + 3), .ref (a + 4), .null, .int 0, .int 0, .int 0, .int 0, .int 0, .int 0, .int 0]) :: .inl (G.2.2.2.1 0, 19, .inl (fun j => (scG i).2.2.getD j 0)) :: [.inl (G.2.2.2.1 0, 701, .inl (fun _ => 0)), .inl (G.2.2.2.1 0, 701, .inl (fun _ => 0)), .inl (G.2.2.2.1 0, 701, .inl (fun _ => 0))]) H locs → zWL G X YX7_init 4 2122 H locs Q (zFr X 45 arr []) := by
  obtain ⟨hx, hb, hml, hown, hts, hr, hlk, hK, hI, hin, hsz⟩ := id h
  obtain ⟨K, V, hR, hE⟩ := hI.2.2
  intro n
  induction n with
  | zero =>
    intro i H locs arr hi hl hS
    have hi : i = 89 := by omega
    refine lv_iload_n hx hb (show decode cX7_init 45 = .ok (.iload_n 3, 1) by decide +kernel) rfl (lv_at hl 3 rfl) ?_
    refine va_ldcS hx hb hown hR (show decode cX7_init 46 = .ok (.ldc 24, 2) by decide +kernel) ?_
    have hE1 := hE.kept hS.2.2.1
    obtain ⟨cell, g1, g2, g3, -⟩ := id hE1.1
    have run := va_runV (e := X.2.1) (R := YX7_init.2.2.2.2) (below := X.2.2.2.2.2.1) (meth := X.2.2.2.2.2.2.1) (locs := locs) (H := H) (As := []) (rest := [.int (nI i)]) (b := K) (g := zFr X 48 arr [.ref K, .int (nI i)]) (cells := 4) (slots := 2122) ⟨hx, hb, hml, hown, hts⟩ (jc_length (G := G) (K := K) (V := V)) (cwV 0 hts sg_len rfl rfl rfl ⟨rfl, by decide +kernel, by decide +kernel, by decide +kernel⟩ ⟨by decide, by decide⟩) ⟨(fun a U g mk q => ⟨q.1, zSt.moved (u := U) (Vm.Alike.refl U.vm) q.2⟩), ⟨cell, g1, g2, g3⟩, fun U hU hW => ⟨rfl, by show zSt K V jN U U.heap; rw [hU]; exact (hE1.moved hW.alike).narrow (fun _ z => z.elim)⟩⟩ rfl rfl hl.1 rfl (Nat.le_of_ble_eq_true rfl) (show decode cX7_init 48 = .ok (.invokevirtual 26, 3) by decide +kernel) ⟨by decide, by decide⟩
    refine va_calli run hS.2 (fun q _ z => z.elim) (fun q z => z.elim) (fun v u t H1 locs1 ht hal hp hB hsz1 hq hS1 => ?_)
    have hp : v = 89 := hp
    subst hp
    have hP1 := hS.1.kept (fun k q hk => hq _ (hS.1 k q hk).lt (fun z => z))
    exact lv_icmp_ge (pc := 51) (tgt := 107) hx hb (show decode cX7_init 51 = .ok (.if_icmp .ge 56, 3) by decide +kernel) (by decide) (fun _ => by subst hi; exact kk _ _ _ ⟨hP1, hS1⟩) (fun z => absurd ((n_le (a := 89) (b := i) (by decide) (by omega)).mpr (by omega)) z)
  | succ n ih =>
    intro i H locs arr hi hl hS
    have hi9 : i < 89 := by omega
    obtain ⟨w1, w2⟩ := sc_w i hi9
    have hst := sc_st i hi9
    have hln := sc_len i (by omega)
    refine lv_iload_n hx hb (show decode cX7_init 45 = .ok (.iload_n 3, 1) by decide +kernel) rfl (lv_at hl 3 rfl) ?_
    refine va_ldcS hx hb hown hR (show decode cX7_init 46 = .ok (.ldc 24, 2) by decide +kernel) ?_
    have hE1 := hE.kept hS.2.2.1
    obtain ⟨cell, g1, g2, g3, -⟩ := id hE1.1
    have run := va_runV (e := X.2.1) (R := YX7_init.2.2.2.2) (below := X.2.2.2.2.2.1) (meth := X.2.2.2.2.2.2.1) (locs := locs) (H := H) (As := []) (rest := [.int (nI i)]) (b := K) (g := zFr X 48 arr [.ref K, .int (nI i)]) (cells := 4) (slots := 2122) ⟨hx, hb, hml, hown, hts⟩ (jc_length (G := G) (K := K) (V := V)) (cwV 0 hts sg_len rfl rfl rfl ⟨rfl, by decide +kernel, by decide +kernel, by decide +kernel⟩ ⟨by decide, by decide⟩) ⟨(fun a U g mk q => ⟨q.1, zSt.moved (u := U) (Vm.Alike.refl U.vm) q.2⟩), ⟨cell, g1, g2, g3⟩, fun U hU hW => ⟨rfl, by show zSt K V jN U U.heap; rw [hU]; exact (hE1.moved hW.alike).narrow (fun _ z => z.elim)⟩⟩ rfl rfl hl.1 rfl (Nat.le_of_ble_eq_true rfl) (show decode cX7_init 48 = .ok (.invokevirtual 26, 3) by decide +kernel) ⟨by decide, by decide⟩
    refine va_calli run hS.2 (fun q _ z => z.elim) (fun q z => z.elim) (fun v u t H1 locs1 ht hal hp hB hsz1 hq hS1 => ?_)
    have hp : v = 89 := hp
    subst hp
    have hP1 := hS.1.kept (fun k q hk => hq _ (hS.1 k q hk).lt (fun z => z))
    refine lv_icmp_ge (pc := 51) (tgt := 107) hx hb (show decode cX7_init 51 = .ok (.if_icmp .ge 56, 3) by decide +kernel) (by decide) (fun z => absurd ((n_le (a := 89) (b := i) (by decide) (by omega)).mp z) (by omega)) (fun _ => ?_)
    refine lv_iload_n hx hb (show decode cX7_init 54 = .ok (.iload_n 1, 1) by decide +kernel) rfl (lv_at hl 1 rfl) ?_
    refine lv_bipush (v := nI 19) hx hb (show decode cX7_init 55 = .ok (.bipush 19, 2) by decide +kernel) (by decide) ?_
    refine lv_icmp_ge (pc := 57) (tgt := 107) hx hb (show decode cX7_init 57 = .ok (.if_icmp .ge 50, 3) by decide +kernel) (by decide) (fun z => absurd ((n_le (a := 19) (b := (scG i).1) (by decide) (by omega)).mp z) (by omega)) (fun _ => ?_)
    refine va_ldcS hx hb hown hR (show decode cX7_init 60 = .ok (.ldc 24, 2) by decide +kernel) ?_
    refine lv_iload_n hx hb (show decode cX7_init 62 = .ok (.iload_n 3, 1) by decide +kernel) rfl (lv_at hl 3 rfl) ?_
    have hE2 := hE.kept hS1.2.1
    obtain ⟨cell2, f1, f2, f3, -⟩ := id hE2.1
    have run := va_runV (e := X.2.1) (R := YX7_init.2.2.2.2) (below := X.2.2.2.2.2.1) (meth := X.2.2.2.2.2.2.1) (locs := locs1) (H := H1) (As := [.int (nI i)]) (rest := []) (b := K) (g := zFr X 63 arr [.int (nI i), .ref K]) (cells := 4 + 0) (slots := 2122 + 0) ⟨hx, hb, hml, hown, hts⟩ (jc_charAt (G := G) (K := K) (V := V) hi9) (cwV 1 hts sg_chr rfl rfl rfl ⟨rfl, by decide +kernel, by decide +kernel, by decide +kernel⟩ ⟨by decide, by decide⟩) ⟨(fun a U g mk q => ⟨q.1, zSt.moved (u := U) (Vm.Alike.refl U.vm) q.2⟩), ⟨cell2, f1, f2, f3⟩, fun U hU hW => ⟨rfl, by show zSt K V jN U U.heap; rw [hU]; exact (hE2.moved hW.alike).narrow (fun _ z => z.elim)⟩⟩ rfl rfl hl.1 rfl (Nat.le_of_ble_eq_true rfl) (show decode cX7_init 63 = .ok (.invokevirtual 32, 3) by decide +kernel) ⟨by decide, by decide⟩
    refine va_calli run hS1 (fun q _ z => z.elim) (fun q z => z.elim) (fun v u t H2 locs2 ht2 hal2 hp2 hB2 hsz2 hq2 hS2 => ?_)
    have hp2 : v = nI (wcn.getD i 0) := hp2.trans (sc_ch i hi9)
    subst hp2
    have hP2 := hP1.kept (fun k q hk => hq2 _ (hP1 k q hk).lt (fun z => z))
    refine lv_istore (lv' := (4, .int (nI (wcn.getD i 0))) :: [(0, .ref a), (1, .int (nI (scG i).1)), (2, .int (nI (scG i).2.1)), (3, .int (nI i))]) hx hb (show decode cX7_init 66 = .ok (.istore 4, 2) by decide +kernel) hl (by decide) rfl (fun arr hl => ?_)
    refine lv_iload hx hb (show decode cX7_init 68 = .ok (.iload 4, 2) by decide +kernel) (lv_at hl 0 rfl) ?_
    refine lv_bipush (v := nI 32) hx hb (show decode cX7_init 70 = .ok (.bipush 32, 2) by decide +kernel) (by decide) ?_
    have tl : ∀ (H9 : Heap) (locs9 : List Loc) (arr9 : Array Slot), lv_has arr9 5 [(0, .ref a), (1, .int (nI (scG (i + 1)).1)), (2, .int (nI (scG (i + 1)).2.1)), (3, .int (nI i))] → bS G X a (.inr (7, [.ref (a + 1), .ref (a + 2), .ref (a + 3), .ref (a + 4), .null, .int 0, .int 0, .int 0, .int 0, .int 0, .int 0, .int 0]) :: .inl (G.2.2.2.1 0, 19, .inl (fun j => (scG (i + 1)).2.2.getD j 0)) :: [.inl (G.2.2.2.1 0, 701, .inl (fun _ => 0)), .inl (G.2.2.2.1 0, 701, .inl (fun _ => 0)), .inl (G.2.2.2.1 0, 701, .inl (fun _ => 0))]) H9 locs9 → zWL G X YX7_init 4 2122 H9 locs9 Q (zFr X 101 arr9 []) := fun H9 locs9 arr9 hl9 hS9 => by
      refine lv_iinc (v := nI (i + 1)) (lv' := [(3, .int (nI (i + 1))), (0, .ref a), (1, .int (nI (scG (i + 1)).1)), (2, .int (nI (scG (i + 1)).2.1))]) hx hb (show decode cX7_init 101 = .ok (.iinc 3 1, 3) by decide +kernel) hl9 (k := 3) rfl (by rw [show Int32.ofInt 1 = nI 1 from rfl, n_add]) (by decide) rfl (fun arr8 hl8 => ?_)
      refine lv_goto (pc := 104) (tgt := 45) hx hb (show decode cX7_init 104 = .ok (.goto (-59), 3) by decide +kernel) (by decide) ?_
      exact ih (i + 1) H9 locs9 arr8 (by omega) (lv_sub hl8 [1, 2, 3, 0] rfl) hS9
    refine lv_icmp_ne (pc := 72) (tgt := 83) hx hb (show decode cX7_init 72 = .ok (.if_icmp .ne 11, 3) by decide +kernel) (by decide) (fun z => ?_) (fun z => ?_)
    · have z : ¬ wcn.getD i 0 = 32 := fun e => z (by rw [e])
      rw [if_neg z] at hst
      refine lv_aload_n hx hb (show decode cX7_init 83 = .ok (.aload_n 0, 1) by decide +kernel) rfl (lv_at hl 1 rfl) ?_
      obtain ⟨c1, c2, c3, c4, c5, c6, c7⟩ := clX7
      refine va_get hx hb hts c5 hown hK.1 hP2 0 (he := rfl) c4 0 (by decide) (hts _ wi_220) (fun _ h9 => h9) (v := .ref (a + 1)) rfl (show decode cX7_init 84 = .ok (.getfield 11, 3) by decide +kernel) ?_
      refine lv_iload_n hx hb (show decode cX7_init 87 = .ok (.iload_n 1, 1) by decide +kernel) rfl (lv_at hl 2 rfl) ?_
      refine lv_dup2_11 hx hb (show decode cX7_init 88 = .ok (.dup2, 1) by decide +kernel) rfl rfl ?_
      refine va_iald hx hb hK.1 hP2 1 0 (ha := rfl) (hK.ty (by decide)) (vp_in_nI w1 (by decide)) (show decode cX7_init 89 = .ok (.iaload, 1) by decide +kernel) ?_
      rw [n_cl (by omega)]
      refine lv_iload hx hb (show decode cX7_init 90 = .ok (.iload 4, 2) by decide +kernel) (lv_at hl 0 rfl) ?_
      refine lv_iload_n hx hb (show decode cX7_init 92 = .ok (.iload_n 2, 1) by decide +kernel) rfl (lv_at hl 3 rfl) ?_
      have hMet := ycX7_letterBits (G := (G.1, H2.size, G.2.2.1, G.2.2.2.1, G.2.2.2.2)) (fun rr _ => rr = [.inl (lb (wcn.getD i 0) (scG i).2.1)]) [.inl (nI (wcn.getD i 0)), .inl (nI (scG i).2.1)] ((fun _ _ _ => 0), (fun _ _ _ => 0), fun _ _ _ => 0) (p_letterBits rfl) (by simp [yok]) ⟨fun k i k2 i2 z => absurd z (Nat.not_lt_zero _), fun k i z => absurd z (Nat.not_lt_zero _)⟩
      have hw : _ ∧ _ ∧ _ ∧ _ := ⟨wi_217, wi_218, wi_125, wi_219⟩
      have hG : GoodIn zgw (zws yX7_letterBits YX7_letterBits) := zgw_in (fun w h => by
        rcases List.mem_cons.mp h with rfl | h
        · exact hw.2.2.2
        · exact h)
      have run := va_runS (e := X.2.1) (R := YX7_init.2.2.2.2) (below := X.2.2.2.2.2.1) (meth := X.2.2.2.2.2.2.1) (locs := locs2) (H := H2) (As := [.int (nI (wcn.getD i 0)), .int (nI (scG i).2.1)]) (rest := [.int ((scG i).2.2.getD (scG i).1 0), .int (nI (scG i).1), .ref (a + 1)]) (g := zFr X 93 arr [.int (nI (scG i).2.1), .int (nI (wcn.getD i 0)), .int ((scG i).2.2.getD (scG i).1 0), .int (nI (scG i).1), .ref (a + 1)]) (cells := 4 + 0 + 0) (slots := 2122 + 0 + 0) ⟨hx, hb, hml, hown, hts⟩ hMet ⟨callB_of 2 hts hG rfl rfl rfl (hts _ hw.2.2.1) (hts _ hw.1) mdX7_letterBits ⟨by decide, by decide⟩, hts _ hw.2.1⟩ ⟨yPre_blind, fun U hU hW => ⟨rfl, fun k i z => absurd z (Nat.not_lt_zero _), hK.warm hW⟩⟩ rfl rfl hl.1 rfl (Nat.le_of_ble_eq_true rfl) (show decode cX7_init 93 = .ok (.invokestatic 36, 3) by decide +kernel) ⟨by decide, by decide⟩
      refine i_pure (G9 := (G.1, H2.size, G.2.2.1, G.2.2.2.1, G.2.2.2.2)) (pc := 93) (a := a) (fun v hv => by rcases v with v | v | v; rfl; rfl; rfl) rfl rfl run hS2 (by have := (hP2 0 _ rfl).lt; exact Nat.le_of_lt this) (fun r M H3 locs3 hr3 hq3 hS3 => ?_)
      have hr3 : r = [.inl (lb (wcn.getD i 0) (scG i).2.1)] := hr3
      subst hr3
      have hP3 := hP2.kept (fun k q hk => hq3 _ (hP2 k q hk).lt)
      refine lv_ior hx hb (show decode cX7_init 96 = .ok (.ior, 1) by decide +kernel) ?_
      refine va_iast hx hb hK.1 hP3 (bw_D a _) hS3 1 0 (ha := rfl) (hK.ty (by decide)) (vp_in_nI w1 (by decide)) (show decode cX7_init 97 = .ok (.iastore, 1) by decide +kernel) (fun H4 locs4 hP4 hD4 hS4 => ?_)
      rw [n_cl (by omega), sc_upd (by rw [hln]; exact w1), bw_set] at hP4
      refine lv_iinc (v := nI ((scG i).2.1 + 1)) (lv' := [(2, .int (nI ((scG i).2.1 + 1))), (4, .int (nI (wcn.getD i 0))), (0, .ref a), (1, .int (nI (scG i).1)), (3, .int (nI i))]) hx hb (show decode cX7_init 98 = .ok (.iinc 2 1, 3) by decide +kernel) hl (k := 3) rfl (by rw [show Int32.ofInt 1 = nI 1 from rfl, n_add]) (by decide) rfl (fun arr8 hl8 => ?_)
      refine tl H4 locs4 arr8 (by rw [hst]; exact lv_sub hl8 [2, 3, 0, 4] rfl) ⟨by rw [hst]; exact hP4, hS4⟩
    · have z : wcn.getD i 0 = 32 := (n_eq (by omega) (by decide)).mp z
      rw [if_pos z] at hst
      refine lv_iinc (v := nI ((scG i).1 + 1)) (lv' := [(1, .int (nI ((scG i).1 + 1))), (4, .int (nI (wcn.getD i 0))), (0, .ref a), (2, .int (nI (scG i).2.1)), (3, .int (nI i))]) hx hb (show decode cX7_init 75 = .ok (.iinc 1 1, 3) by decide +kernel) hl (k := 2) rfl (by rw [show Int32.ofInt 1 = nI 1 from rfl, n_add]) (by decide) rfl (fun arr8 hl8 => ?_)
      refine lv_iconst (v := nI 0) hx hb (show decode cX7_init 78 = .ok (.iconst 0, 1) by decide +kernel) (by decide) ?_
      refine lv_istore_n (lv' := [(2, .int (nI 0)), (1, .int (nI ((scG i).1 + 1))), (4, .int (nI (wcn.getD i 0))), (0, .ref a), (3, .int (nI i))]) hx hb (show decode cX7_init 79 = .ok (.istore_n 2, 1) by decide +kernel) rfl hl8 (by decide) rfl (fun arr7 hl7 => ?_)
      refine lv_goto (pc := 80) (tgt := 101) hx hb (show decode cX7_init 80 = .ok (.goto 21, 3) by decide +kernel) (by decide) ?_
      exact tl H2 locs2 arr7 (by rw [hst]; exact lv_sub hl7 [3, 1, 0, 4] rfl) ⟨by rw [hst]; exact hP2, hS2⟩
