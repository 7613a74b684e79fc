theorem wi_647 : Cond.methodLink "KnockBank" 83 ⟨"KnockBank$Scene", "begin", "(LKnockBank$Text;)V"⟩ ∈ zgw := zgw_3 45 rfl rfl
theorem wi_648 : Cond.instanceMethod ⟨"KnockBank$Scene", "begin", "(LKnockBank$Text;)V"⟩ ∈ zgw := zgw_3 46 rfl rfl
theorem wi_649 : Cond.selects "KnockBank$Scene" ⟨"KnockBank$Scene", "begin", "(LKnockBank$Text;)V"⟩ ⟨"KnockBank$Scene", "begin", "(LKnockBank$Text;)V"⟩ ∈ zgw := zgw_3 47 rfl rfl
theorem wi_650 : Cond.code ⟨"KnockBank$Scene", "begin", "(LKnockBank$Text;)V"⟩ prog_10_method_2_code 3 none ∈ zgw := zgw_3 48 rfl rfl
theorem iMetX_of {G : zG} {y : MethodName} {Y : zY} {e0 : va_E} {a : Nat} {S : Type} {post : S → Prop} {B : S → State → Prop} (hy : plainName y.cls = true) (hcl : y.cls = Y.1) (hret : Y.2.2.2.1 = none) (hnm : y.name = "<init>") (h1 : 1 ≤ Y.2.2.1)
    (hb : ∀ (X : zX) (arr : Array Slot), iC G X Y a → bS G X a [e0] X.2.2.1.heap [] → lv_has arr Y.2.2.1 [(0, .ref a)] → zWL G X Y 0 0 X.2.2.1.heap [] (MQ X.2.2.2.2.2.1 (va_Qv post B (bA a)) X.2.2.2.2.1 X.2.2.1 Y.2.2.2.2.cells Y.2.2.2.2.slots (bA a)) (zFr X 0 arr [])) : Met G.1 y (zws y Y) Y.2.2.2.2 (va_Pc [.ref a] (iPre G e0 a)) (va_Qv post B (bA a)) Y.2.2.2.2.cells Y.2.2.2.2.slots (bA a) := by
  refine Met.ofW (cc := Y.2.1) (maxL := Y.2.2.1) (ret := Y.2.2.2.1) hy rfl ?_
  intro p e s m args below meth c s₁ B hml hv
  obtain ⟨rfl, hsz, hP, hK, hI⟩ := hv
  have hts : ∀ w ∈ zgw, w.before ([.ref a] : List Value).toArray s = true := fun w h => atoms_spec (ws := zws y Y) B.pre w (List.mem_cons_of_mem _ h)
  have hown : s.vm.findClass Y.1 = some m.cls := by rw [← hcl]; exact findClass_of_methodNamed B.named
  have hin : meth.name = "<init>" := ((name_of_methodNamed B.named B.method).1).trans hnm
  have hC : iC G (p, e, s, m, ([.ref a] : List Value).toArray, below, meth, c) Y a := ⟨B.exec, B.bytes, hml, hown, hts, B.returns.trans hret, B.notSynchronized, hK, hI, hin, hsz⟩
  have hl := lv_entry ([.ref a] : List Value) (n := Y.2.2.1) h1
  rw [lg_entry_eq]
  exact hb (p, e, s, m, ([.ref a] : List Value).toArray, below, meth, c) _ hC ⟨hP, va_S.rf⟩ hl
theorem k_CT : CT cI0 0 T00 := by
  refine ⟨by decide, ⟨rfl, rfl, rfl⟩, ⟨by decide, by decide, by decide⟩, fun h q => absurd q (Nat.not_lt_zero h), fun h q => absurd q (Nat.not_lt_zero h), fun h q => absurd q (Nat.not_lt_zero h), ⟨rfl, rfl, rfl⟩, fun w hw => ⟨Nat.zero_le _, rfl, fun i hi => absurd hi (Nat.not_lt_zero i)⟩⟩
theorem k_begin : mX8_begin (fun rr M' => rr = [] ∧ RC (newA T00) M'.1 M'.2.2) [.inr (.inr (8, 0)), .inr (.inr (9, 0))] cM0 := by
  refine p_begin k_CT (fun I' P' f hS hp hP => ⟨rfl, 0, ⟨f.T k_CT, ?_, ?_, fun h q => absurd q (Nat.not_lt_zero h), Or.inl ⟨?_, ?_⟩⟩, hp, hS, ?_, ⟨?_, by decide, fun i hi => absurd hi (Nat.not_lt_zero i)⟩, ⟨?_, by decide, ?_, Or.inl rfl, fun i hi => absurd hi (Nat.not_lt_zero i)⟩, ⟨?_, by decide, fun i hi => absurd hi (Nat.not_lt_zero i)⟩, ⟨?_, ?_⟩, fun i hi => ?_⟩)
  · exact (hP 11 0 11 (by decide)).trans rfl
  · exact (hP 11 0 12 (by decide)).trans rfl
  · exact (f 9 0 _ (by decide) (by decide)).trans rfl
  · exact (f 9 0 _ (by decide) (by decide)).trans rfl
  · exact (f 11 0 14 (by decide) (by decide)).trans rfl
  · exact (f 0 0 _ (by decide) (by decide)).trans rfl
  · exact (f 3 0 _ (by decide) (by decide)).trans rfl
  · exact (f 3 0 _ (by decide) (by decide)).trans rfl
  · exact (f 11 0 _ (by decide) (by decide)).trans rfl
  · exact (f 5 0 _ (by decide) (by decide)).trans rfl
  · exact (f 5 0 _ (by decide) (by decide)).trans rfl
  · exact (f 27 0 _ (by decide) (by decide)).trans rfl
section YC
variable {G : zG} {X : zX} {Y : zY} {Q : State → Prop} {pc kc ks a : Nat} {H : Heap} {locs : List Loc} {arr : Array Slot} {rest : List Value}
theorem i_runY {cn : Nat → Nat} {G9 : zG} {K : zQ} {av : Array Value} {st0 : List Value} (hg : G9.2.1 = a) (hr : va_Run X.1 G.1 X.2.1 Y.2.2.2.2 X.2.2.1 X.2.2.2.1 X.2.2.2.2.1 X.2.2.2.2.2.1 X.2.2.2.2.2.2.1 X.2.2.2.2.2.2.2 H locs kc ks 0 0 (zFr X pc arr st0) rest (yPost cn G9 K av) (zA G9)) (hS : va_S (bA a) X.2.2.1.heap H locs)
    (kk : ∀ (r : List zV) (M : zM) (H1 : Heap) (locs1 : List Loc), K r M → yRep cn G9 M H1 → va_S (bA a) X.2.2.1.heap H1 locs1 → zWL G X Y kc ks H1 locs1 Q (zFr X (pc + 3) arr ((r.map (zcv G9)).head?.toList ++ rest))) : zWL G X Y kc ks H locs Q (zFr X pc arr st0) := by
  intro T hT X9
  obtain ⟨v, st₀, t, T', L, h0, X', hL, e1, e2, ⟨⟨r, M, hv, hlen, hK, hM, hok⟩, hz, hk⟩, st⟩ := hr T hT X9
  rw [h0] at hz hk
  subst hg
  cases hv
  obtain ⟨t2, a1, b1⟩ := kk r M T'.heap (locs ++ L) hK (by rw [e1]; exact hM)
    ⟨Nat.le_trans hS.1 (by rw [e1]; exact hz), fun q h1 h2 => by rw [e1, hk q (Nat.lt_of_lt_of_le h1 hS.1) h2]; exact hS.2.1 q h1 h2, fun q hq => by
      rcases List.mem_append.mp hq with h | h
      · exact hS.2.2 q h
      · exact hL q h⟩ T' rfl X'
  exact ⟨t2, st t2 a1, b1⟩
/-- a method of an object of the part, called out of a constructor -/
theorem i_callY {cn : Nat → Nat} {G9 : zG} {m : zQ → List zV → zM → Prop} {y : MethodName} {Y' : zY} {k i n idx : Nat} {C : String} {T : u_T} {N : Nat} {ty : Nat → FieldType} (h : iC G X Y a) (h1 : G9.1 = G.1) (h2 : G9.2.1 = a) (h3 : G9.2.2.1 = G.2.2.1) (h4 : G9.2.2.2.1 = G.2.2.2.1) (hI9 : yInj cn G9) (hm : yMet cn G9 y Y' m) (hc : zCl k C T N ty) (hyC : y.cls = C) (hmd : zMd y n) (hrm : zRm Y' Y)
    (hw : Cond.methodLink Y.1 idx y ∈ zgw ∧ Cond.instanceMethod y ∈ zgw ∧ Cond.selects C y y ∈ zgw ∧ Cond.initialized C ∈ zgw ∧ Cond.code y Y'.2.1 Y'.2.2.1 Y'.2.2.2.1 ∈ zgw) (hd : decode Y.2.1 pc = .ok (.invokevirtual idx, 3)) (hroom : kc ≤ Y.2.2.2.2.cells ∧ ks ≤ Y.2.2.2.2.slots)
    {K : zQ} {as : List zV} {M : zM} {st0 : List Value} {lv : List (Nat × Value)} (hf : m K (.inr (.inr (k, i)) :: as) M) (hi : i < cn k) (hok : ∀ v ∈ as, yok cn v) (en : as.length = n) (est : st0 = ((as.map (zcv G9)).reverse ++ [.ref (G9.2.2.2.2 k i)])) (hM : yRep cn G9 M H) (hS : va_S (bA a) X.2.2.1.heap H locs) (hL : lv_has arr Y.2.2.1 lv)
    (kk : ∀ (r : List zV) (M' : zM) (H1 : Heap) (locs1 : List Loc), K r M' → yRep cn G9 M' H1 → va_S (bA a) X.2.2.1.heap H1 locs1 → zWL G X Y kc ks H1 locs1 Q (zFr X (pc + 3) arr ((r.map (zcv G9)).head?.toList ++ []))) : zWL G X Y kc ks H locs Q (zFr X pc arr st0) := by
  obtain ⟨hx, hb, hml, hown, hts, hr, hlk, hK, -⟩ := h
  obtain ⟨l9, b9, d9, t9, a9⟩ := G9
  dsimp only at h1 h2 h3 h4
  subst h1; subst h3; subst h4
  have hMet := hm _ _ _ hf (List.forall_mem_cons.mpr ⟨hi, hok⟩) hI9
  obtain ⟨c1, c2, c3, c4, c5, c6, c7⟩ := hc
  have hP := yat1 hM hi (zcell_obj c1)
  rw [c2] at hP
  have hG : GoodIn zgw (wsV Y.1 idx C y (zws y Y')) := zgw_in (fun w h => by
    rcases List.mem_append.mp h with h | h
    · simp only [List.mem_cons, List.not_mem_nil, or_false] at h
      rcases h with rfl | rfl | rfl | rfl
      · exact hw.1
      · exact hw.2.1
      · exact hw.2.2.1
      · exact hw.2.2.2.1
    · rcases List.mem_cons.mp h with rfl | h
      · exact hw.2.2.2.2
      · exact h)
  have run := va_runV (e := X.2.1) (below := X.2.2.2.2.2.1) (meth := X.2.2.2.2.2.2.1) (locs := locs) (As := as.map (zcv (G.1, b9, G.2.2.1, G.2.2.2.1, a9))) (rest := []) (b := a9 k i) (g := zFr X pc arr st0) (cells := kc) (slots := ks) ⟨hx, hb, hml, hown, hts⟩ hMet
    (cwV n hts hG rfl hrm.1 hrm.2.1 ⟨hyC, hmd⟩ hrm.2.2) ⟨yPre_blind, va_recv hK.1 hP (q0 := 0) c4 rfl, fun U hU hW => ⟨rfl, by rw [hU]; exact hM, hK.warm hW⟩⟩ rfl (by rw [List.length_map]; exact en) hL.1 (by show st0 = _; rw [est]) (Nat.le_of_ble_eq_true rfl) hd ⟨hroom.1, hroom.2⟩
  exact i_runY h2 run hS kk
end YC
theorem gA_inj {G : zG} {a : Nat} : yInj cnA (gA G a) := ⟨fun k i k' i' h h' e => adG_inj (Nat.lt_of_lt_of_le h (hleA k)) (Nat.lt_of_lt_of_le h' (hleA k')) e, fun k i _ => Nat.le_add_right a _⟩
