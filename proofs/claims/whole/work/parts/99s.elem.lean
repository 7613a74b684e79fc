-- a row of references is filled, one new object a round
section BE
variable {G : zG} {X : zX} {Y : zY} {Q : State → Prop} {pc kc ks a : Nat} {H : Heap} {locs : List Loc} {arr : Array Slot} {es : List va_E}
abbrev rfs (f : Nat → Option Nat) : (Nat → Int32) ⊕ (Nat → Int64) ⊕ (Nat → UInt32) ⊕ (Nat → UInt64) ⊕ (Nat → Option Nat) := .inr (.inr (.inr (.inr f)))
theorem i_cmp (h : iC G X Y a) {i M w tgt : Nat} {off : Int} (hi : i < 1000) (hM : M < 1000) (hl : lv_has arr 2 [(0, .ref a), (1, .int (nI i))]) (d0 : decode Y.2.1 pc = .ok (.iload_n 1, 1)) (d1 : (∃ j, decode Y.2.1 (pc + 1) = .ok (.iconst j, w) ∧ w = 1 ∧ Int32.ofInt j = nI M) ∨ ∃ j, decode Y.2.1 (pc + 1) = .ok (.bipush j, w) ∧ w = 2 ∧ (Int8.ofInt j).toInt32 = nI M) (d2 : decode Y.2.1 (pc + 1 + w) = .ok (.if_icmp .ge off, 3)) (ho : ((pc + 1 + w : Nat) : Int) + off = (tgt : Int))
    (k1 : M ≤ i → zWL G X Y kc ks H locs Q (zFr X tgt arr [])) (k2 : i < M → zWL G X Y kc ks H locs Q (zFr X (pc + 1 + w + 3) arr [])) : zWL G X Y kc ks H locs Q (zFr X pc arr []) := by
  obtain ⟨hx, hb, -⟩ := id h
  refine lv_iload_n hx hb d0 rfl (lv_at hl 1 rfl) ?_
  have k3 : zWL G X Y kc ks H locs Q (zFr X (pc + 1 + w) arr [.int (nI M), .int (nI i)]) :=
    lv_icmp_ge (tgt := tgt) hx hb d2 ho (fun c => k1 ((n_le (by omega) (by omega)).mp c)) (fun c => k2 (Nat.not_le.mp (fun z => c ((n_le (by omega) (by omega)).mpr z))))
  rcases d1 with ⟨j, d, rfl, e⟩ | ⟨j, d, rfl, e⟩
  · exact lv_iconst hx hb d e k3
  · exact lv_bipush hx hb d e k3
theorem i_elem (h : iC G X Y a) {ci k idx j t M : Nat} {T : u_T} {N : Nat} {ty : Nat → FieldType} (hc : zCl ci Y.1 T N ty) {fs : List Value} (hk : k < N) (hlink : Cond.fieldLink Y.1 idx (T k).1 (T k).2.1 (T k).2.2.1 ∈ zgw) (hfk : fs[k]? = some (.ref (a + j))) {f : Nat → Option Nat} (ht : t < 8) (hj : (.inr (ci, fs) :: es)[j]? = some (.inl (G.2.2.2.1 t, M, rfs f)))
    {C : String} {T2 : u_T} {N2 c2 ik ic : Nat} {ty2 : Nat → FieldType} {fs0 : List Value} {y : MethodName} {Y' : zY} {L : Nat → List va_E} (hC : zty t = .object C) (hm : iMet G y Y' (.inr (c2, fs0)) L) (hc2 : zCl c2 C T2 N2 ty2) (hyC : y.cls = C) (hyi : y.name = "<init>") (hmd : zMd y 0) (hr2 : Y'.2.2.2.1 = none)
    (hrm : Y'.2.2.2.2.frames + 1 ≤ Y.2.2.2.2.frames ∧ 8 + (Y'.2.2.1 + 11) + Y'.2.2.2.2.locals ≤ Y.2.2.2.2.locals) (hfs : ∀ j, j < N2 → defaultValue (ty2 j) = vp_V fs0 j)
    (hw : Cond.classLink Y.1 ik C ∈ zgw ∧ Cond.instantiable C N2 ∈ zgw ∧ Cond.initialized C ∈ zgw ∧ Cond.instanceMethod y ∈ zgw ∧ Cond.code y Y'.2.1 Y'.2.2.1 none ∈ zgw) (hlk : Cond.methodLink Y.1 ic y ∈ zgw ∨ Cond.methodLinkNest Y.1 ic y "KnockBank" ∈ znestI)
    (hcc : kc + 1 + Y'.2.2.2.2.cells ≤ Y.2.2.2.2.cells) (hss : ks + N2 + Y'.2.2.2.2.slots ≤ Y.2.2.2.2.slots) {vs : List Value} (hL0 : (L (a + (es.length + 1)))[0]? = some (.inr (c2, vs))) (hnL : 2 = Y.2.2.1)
    {i h0 : Nat} {off : Int} (hi : i < M) (hM : M < 1000) (hl : lv_has arr 2 [(0, .ref a), (1, .int (nI i))])
    (d0 : decode Y.2.1 pc = .ok (.aload_n 0, 1)) (d1 : decode Y.2.1 (pc + 1) = .ok (.getfield idx, 3)) (d2 : decode Y.2.1 (pc + 4) = .ok (.iload_n 1, 1)) (d3 : decode Y.2.1 (pc + 5) = .ok (.new ik, 3)) (d4 : decode Y.2.1 (pc + 8) = .ok (.dup, 1)) (d5 : decode Y.2.1 (pc + 9) = .ok (.invokespecial ic, 3)) (d6 : decode Y.2.1 (pc + 12) = .ok (.aastore, 1)) (d7 : decode Y.2.1 (pc + 13) = .ok (.iinc 1 1, 3)) (d8 : decode Y.2.1 (pc + 16) = .ok (.goto off, 3)) (ho : ((pc + 16 : Nat) : Int) + off = (h0 : Int))
    (hkc : kc = es.length) (hS : bS G X a (.inr (ci, fs) :: es) H locs)
    (kk : ∀ H1 locs1 arr1, bS G X a (((.inr (ci, fs) :: es) ++ L (a + (es.length + 1))).set j (.inl (G.2.2.2.1 t, M, rfs (va_up f i (some (a + (es.length + 1))))))) H1 locs1 → lv_has arr1 2 [(0, .ref a), (1, .int (nI (i + 1)))] → zWL G X Y (kc + 1 + Y'.2.2.2.2.cells) (ks + N2 + Y'.2.2.2.2.slots) H1 locs1 Q (zFr X h0 arr1 [])) : zWL G X Y kc ks H locs Q (zFr X pc arr []) := by
  obtain ⟨hx, hb, hml, hown, hts, hr, hlk0, hK, hI, hin, hsz⟩ := id h
  obtain ⟨c1, c2e, c3, c4, c5, c6, c7⟩ := hc
  refine lv_aload_n hx hb d0 rfl (lv_at hl 0 rfl) ?_
  refine va_get hx hb hts c5 hown hK.1 hS.1 0 (he := rfl) c4 k hk (hts _ hlink) (fun _ h9 => h9) hfk d1 ?_
  refine lv_iload_n hx hb d2 rfl (lv_at hl 1 rfl) ?_
  refine i_new (pc := pc + 5) h hm hc2 hyC hyi hmd hr2 hrm hfs hw hlk hcc hss (Nat.le_of_ble_eq_true rfl) hl hnL d3 d4 d5 (by rw [hkc]; rfl) hS (fun H1 locs1 hS1 => ?_)
  have hjl : j < (.inr (ci, fs) :: es : List va_E).length := (List.getElem?_eq_some_iff.mp hj).1
  have e1 : (bw a ((.inr (ci, fs) :: es) ++ L (a + (es.length + 1))))[j]? = some (a + j, .inl (G.2.2.2.1 t, M, rfs f)) := bw_some (by rw [List.getElem?_append_left hjl]; exact hj)
  have e2 : (bw a ((.inr (ci, fs) :: es) ++ L (a + (es.length + 1))))[es.length + 1]? = some (a + (es.length + 1), .inr (c2, vs)) := bw_some (by
    rw [List.getElem?_append_right (by simp)]
    simpa using hL0)
  have e3 : ((List.range 8).map fun j => (G.2.2.2.1 j, zty j))[t]? = some (G.2.2.2.1 t, .object C) := by rw [hK.ty ht, hC]
  refine va_astq hx hb hK.1 hS1.1 (bw_D a _) hS1.2 j t (es.length + 1) c2 (r := (C, T2, N2)) e1 e3 e2 hc2.2.2.2.1 (vp_in_nI hi (by omega)) d6 (fun H2 locs2 hP2 hD2 hS2 => ?_)
  rw [n_cl (by omega), bw_set] at hP2
  refine lv_iinc (v := nI (i + 1)) (lv' := [(1, .int (nI (i + 1))), (0, .ref a)]) hx hb d7 hl (k := 1) rfl (by rw [show Int32.ofInt 1 = nI 1 from rfl, n_add]) (by decide) rfl (fun arr1 hl1 => ?_)
  refine lv_goto (pc := pc + 16) (tgt := h0) hx hb d8 ho ?_
  exact kk H2 locs2 arr1 ⟨hP2, hS2⟩ (lv_sub hl1 [1, 0] rfl)
end BE
