-- THE LAW'S OWN WALK: calls out of its frame, with cells and slots used before
abbrev zWL (G : zG) (X : zX) (Y : zY) (kc ks : Nat) (H : Heap) (locs : List Loc) (Q : State → Prop) (g : JFrame) : Prop :=
  W X.1 G.1 X.2.1 Y.2.2.2.2 X.2.2.1 X.2.2.2.1 X.2.2.2.2.1 X.2.2.2.2.2.1 X.2.2.2.2.2.2.1 X.2.2.2.2.2.2.2 H locs kc ks Q g
theorem zrunL {G : zG} {X : zX} {Y : zY} {Q : State → Prop} {pc kc ks : Nat} {H : Heap} {locs : List Loc} {arr : Array Slot} {st0 rest : List Value} {K : zQ} {a : Array Value} {rs : List zV} (hrs : rest = rs.map (zcv G)) (hr : va_Run X.1 G.1 X.2.1 Y.2.2.2.2 X.2.2.1 X.2.2.2.1 X.2.2.2.2.1 X.2.2.2.2.2.1 X.2.2.2.2.2.2.1 X.2.2.2.2.2.2.2 H locs kc ks 0 0 (zFr X pc arr st0) rest (zPost G K a) (zA G)) (hS : va_S (zA G) X.2.2.1.heap H locs)
    (kk : ∀ (r : List zV) (M : zM) (H1 : Heap) (locs1 : List Loc), K r M → zRep G M H1 → (∀ v ∈ r, zok v) → va_S (zA G) X.2.2.1.heap H1 locs1 → zWL G X Y kc ks H1 locs1 Q (zFr X (pc + 3) arr ((r ++ rs).map (zcv G)))) : zWL G X Y kc ks H locs Q (zFr X pc arr st0) := by
  intro T hT X9
  obtain ⟨v, st₀, t, T', L, h0, X', hL, e1, e2, ⟨⟨r, M, hv, hlen, hK, hM, hok⟩, hz, hk⟩, st⟩ := hr T hT X9
  rw [h0] at hz hk
  have hv : v = (r.map (zcv G)).head? := by cases hv; rfl
  obtain ⟨t2, a1, b1⟩ := kk r M T'.heap (locs ++ L) hK (by rw [e1]; exact hM) hok
    ⟨Nat.le_trans hS.1 (by rw [e1]; exact hz), fun q h1 h2 => by rw [e1, hk q (Nat.lt_of_lt_of_le h1 hS.1) h2]; exact hS.2.1 q h1 h2, fun q hq => by
      rcases List.mem_append.mp hq with h | h
      · exact hS.2.2 q h
      · exact hL q h⟩ T' rfl X'
  refine ⟨t2, st t2 ?_, b1⟩
  have e : v.toList ++ rest = (r ++ rs).map (zcv G) := by
    rw [hv, hrs, List.map_append]
    congr 1
    match r, hlen with
    | [], _ => rfl
    | [x], _ => rfl
    | x :: y :: z, h => simp at h
  rw [e]
  exact a1
/-- a call of an object's method: it answers what its K says -/
theorem l_callV {G : zG} {X : zX} {Y : zY} {Q : State → Prop} {pc kc ks : Nat} (h : zC G X Y) {m : zQ → List zV → zM → Prop} {y : MethodName} {Y' : zY} {k i n idx : Nat} {C : String} {T : u_T} {N : Nat} {ty : Nat → FieldType} (hm : zMet G y Y' m) (hc : zCl k C T N ty) (hyC : y.cls = C) (hmd : zMd y n) (hrm : zRm Y' Y)
    (hw : Cond.methodLink Y.1 idx y ∈ zgw ∧ Cond.instanceMethod y ∈ zgw ∧ Cond.selects C y y ∈ zgw ∧ Cond.initialized C ∈ zgw ∧ Cond.code y Y'.2.1 Y'.2.2.1 Y'.2.2.2.1 ∈ zgw) (hd : decode Y.2.1 pc = .ok (.invokevirtual idx, 3)) (hroom : kc ≤ Y.2.2.2.2.cells ∧ ks ≤ Y.2.2.2.2.slots)
    {K : zQ} {as rs : List zV} {M : zM} {H : Heap} {locs : List Loc} {arr : Array Slot} {st0 : List Value} {lv : List (Nat × Value)} (hf : m K (.inr (.inr (k, i)) :: as) M) (hi : i < zcnt k) (hok : ∀ v ∈ as, zok v) (en : as.length = n) (hrs : (rs.map zcat).sum ≤ 8) (est : st0 = ((as.map (zcv G)).reverse ++ [.ref (G.2.2.2.2 k i)]) ++ rs.map (zcv G)) (hM : zRep G M H) (hS : va_S (zA G) X.2.2.1.heap H locs) (hL : lv_has arr Y.2.2.1 lv)
    (kk : ∀ (r : List zV) (M' : zM) (H1 : Heap) (locs1 : List Loc), K r M' → zRep G M' H1 → (∀ v ∈ r, zok v) → va_S (zA G) X.2.2.1.heap H1 locs1 → zWL G X Y kc ks H1 locs1 Q (zFr X (pc + 3) arr ((r ++ rs).map (zcv G)))) : zWL G X Y kc ks H locs Q (zFr X pc arr st0) := by
  obtain ⟨hx, hb, hml, hown, hts, hr, hlk, hK, hI⟩ := h
  have hMet := hm _ _ _ hf (List.forall_mem_cons.mpr ⟨hi, hok⟩) hI
  obtain ⟨c1, c2, c3, c4, c5, c6, c7⟩ := hc
  have hP := zat1 hM hi (zcell_obj c1)
  rw [c2] at hP
  have hG : GoodIn zgw (wsV Y.1 idx C y (zws y Y')) := zgw_in (fun w h => by
    rcases List.mem_append.mp h with h | h
    · simp only [List.mem_cons, List.not_mem_nil, or_false] at h
      rcases h with rfl | rfl | rfl | rfl
      · exact hw.1
      · exact hw.2.1
      · exact hw.2.2.1
      · exact hw.2.2.2.1
    · rcases List.mem_cons.mp h with rfl | h
      · exact hw.2.2.2.2
      · exact h)
  have run := va_runV (e := X.2.1) (below := X.2.2.2.2.2.1) (meth := X.2.2.2.2.2.2.1) (locs := locs) (As := as.map (zcv G)) (rest := rs.map (zcv G)) (b := G.2.2.2.2 k i) (g := zFr X pc arr st0) (cells := kc) (slots := ks) ⟨hx, hb, hml, hown, hts⟩ hMet
    (cwV n hts hG rfl hrm.1 hrm.2.1 ⟨hyC, hmd⟩ hrm.2.2) ⟨zPre_blind, va_recv hK.1 hP (q0 := 0) c4 rfl, fun U hU hW => ⟨rfl, by rw [hU]; exact hM, hK.warm hW⟩⟩ rfl (by rw [List.length_map]; exact en) hL.1 (by show st0 = _; rw [est]; simp [zcv]) (lv_room (zsum_le (Nat.ble_eq_true_of_le hrs))) hd ⟨hroom.1, hroom.2⟩
  exact zrunL rfl run hS kk
