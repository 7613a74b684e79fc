-- KnockBank.rap, WHICH RETURNS OR THROWS: 1 no such rap (IndexOutOfBoundsException), 2 no such what (NoSuchElementException)
def g_thr (T : Nat → zM → Prop) (n : Nat) : zF := fun _ st M => match st with
  | [] => T n M
  | _ => False
def zK1 (K : Int32 → zM → Prop) : zQ := fun rr M => ∃ v, rr = [.inl v] ∧ K v M
def zEn (n : Nat) : String := if n = 1 then "java/lang/IndexOutOfBoundsException" else "java/util/NoSuchElementException"
abbrev eDs : List MethodName := [Bundle.initS "java/lang/RuntimeException", Bundle.initS "java/lang/Exception", Bundle.initS Bundle.tN]
abbrev eXs : List String := ["java/lang/RuntimeException", "java/lang/Exception"]
def zCs (C T : String) (U : State) : Prop := ∃ c t : ClassId, U.vm.findClass C = some c ∧ U.vm.findClass T = some t ∧ U.vm.assignable c t = true
theorem zCs.moved {C T : String} {u U : State} (hvm : u.vm.Alike U.vm) (h : zCs C T u) : zCs C T U := by
  obtain ⟨c, t, h1, h2, h3⟩ := h
  exact ⟨c, t, by rw [hvm.findClass]; exact h1, by rw [hvm.findClass]; exact h2, by rw [hvm.assignable]; exact h3⟩
theorem zCs.use {C T : String} {A : Array Value} {U : State} (h : zCs C T U) : (Cond.castable C T).before A U = true := by
  obtain ⟨c, t, h1, h2, h3⟩ := h
  simp [Cond.before, Cond.holds, Cond.value, h1, h2, h3]
theorem zCs.of {C T : String} {A : Array Value} {U : State} (h : (Cond.castable C T).before A U = true) : zCs C T U := by
  obtain ⟨c3, c4, hc3, hc4, hasg⟩ := Cond.castable_spec h
  exact ⟨c3, c4, hc3, hc4, hasg⟩
/-- what the throws take of a state, besides the tables' good words -/
def zEx (G : zG) (U : State) (H : Heap) : Prop :=
  vx_Zq Bundle.tN "UNASSIGNED_STACK" Bundle.steD (zA G) U H ∧ vx_Zq Bundle.tN "SUPPRESSED_SENTINEL" Bundle.listD (zA G) U H ∧ (∃ sa, vk_R RX11 121 "no such RAP" sa U) ∧ (∃ sb, vk_R RX11 155 "no such what" sb U) ∧ va_Nc "java/util/NoSuchElementException" "java/lang/IndexOutOfBoundsException" U ∧ zCs "java/lang/IndexOutOfBoundsException" "java/lang/IndexOutOfBoundsException" U ∧ zCs "java/util/NoSuchElementException" "java/util/NoSuchElementException" U ∧ ∀ x ∈ eDs, va_Nw (.declares x) U
theorem zEx.kept {G : zG} {U : State} {H H1 : Heap} {locs : List Loc} (h : zEx G U H) (hS : va_S (zA G) H H1 locs) : zEx G U H1 :=
  ⟨h.1.kept hS.2.1, h.2.1.kept hS.2.1, h.2.2.1, h.2.2.2.1, h.2.2.2.2⟩
theorem zEx.warm {G : zG} {s U : State} {H : Heap} (hW : s.WarmedH U.vm) (h : zEx G s H) : zEx G U H :=
  ⟨h.1.moved hW.alike, h.2.1.moved hW.alike, h.2.2.1.elim fun a q => ⟨a, q.warm hW⟩, h.2.2.2.1.elim fun a q => ⟨a, q.warm hW⟩, h.2.2.2.2.1.moved hW.alike, h.2.2.2.2.2.1.moved hW.alike, h.2.2.2.2.2.2.1.moved hW.alike, fun x hx => (h.2.2.2.2.2.2.2 x hx).warmD hW⟩
theorem zEx.same {G : zG} {s U : State} {H : Heap} (hv : U.vm = s.vm) (h : zEx G s H) : zEx G U H :=
  ⟨h.1.moved (by rw [hv]; exact Vm.Alike.refl _), h.2.1.moved (by rw [hv]; exact Vm.Alike.refl _), h.2.2.1.elim fun a q => ⟨a, q.same hv⟩, h.2.2.2.1.elim fun a q => ⟨a, q.same hv⟩, h.2.2.2.2.1.moved (by rw [hv]; exact Vm.Alike.refl _), h.2.2.2.2.2.1.moved (by rw [hv]; exact Vm.Alike.refl _), h.2.2.2.2.2.2.1.moved (by rw [hv]; exact Vm.Alike.refl _), fun x hx => va_Nw.same rfl hv.symm (h.2.2.2.2.2.2.2 x hx)⟩
abbrev zB1 (G : zG) : zM → State → Prop := fun M t => zRep G M t.heap
abbrev zBX (G : zG) : String → Nat × zM → State → Prop := fun E u t => E = zEn u.1 ∧ zRep G u.2 t.heap
abbrev xXC (G : zG) (T : Nat → zM → Prop) : String → State → State → Prop := vx_X (fun u : Nat × zM => T u.1 u.2) (zBX G) (zA G)
abbrev zXQ (G : zG) (X : zX) (K : Int32 → zM → Prop) (T : Nat → zM → Prop) : State → Prop := vx_MQ X.2.2.2.2.2.1 (va_Qi K (zB1 G) (zA G)) (xXC G T) X.2.2.2.2.1 X.2.2.1 1 6 (zA G)
def zXE (G : zG) (X : zX) : Prop := G.1.stackTraces = false ∧ zEx G X.2.2.1 X.2.2.1.heap ∧ ∀ x ∈ X.2.2.2.2.2.2.2.exceptionTable.toList, False
theorem s_xret1 {G : zG} {X : zX} {Y : zY} {K : Int32 → zM → Prop} {T : Nat → zM → Prop} {pc : Nat} {f : zF} (k : zAt G X Y (zMQ G X (zK1 K)) pc f) : zAt G X Y (zXQ G X K T) pc f := by
  intro ls st M H locs arr hf hM hS hL hst T9 hT X9
  obtain ⟨t, a1, o, b1, b2, ⟨⟨r, M1, rfl, hlen, ⟨v, rfl, hK⟩, hM1, hok⟩, hF⟩, L, ⟨v9, hW, hsm⟩, hf9⟩ := k ls st M H locs arr hf hM hS hL hst T9 hT X9
  exact ⟨t, a1, _, b1, b2, Or.inl ⟨⟨⟨v, M1, rfl, hK, hM1⟩, hF⟩, L, ⟨v9, hW, hsm.mono (by omega) (by omega)⟩, hf9⟩⟩
theorem zRep.up {G : zG} {M : zM} {H H1 : Heap} (hM : zRep G M H) (h : ∀ q : Nat, q < H.size → H1[q]? = H[q]?) : zRep G M H1 := fun k i hi => (hM k i hi).kept (h _ (hM k i hi).lt)
abbrev YX11_rap : zY := (RX11, cX11_rap, 3, (some .int), { frames := 6, cells := 1, slots := 6, locals := 90 })
abbrev eAt2 : List Cond := (xt_at RX11 157 "java/util/NoSuchElementException" "java/lang/RuntimeException" ["java/lang/Exception"] 13 prog_30_method_4_code).filter vx_no
theorem xe_ok1 : ∀ w ∈ vx_atS RX11 123 "java/lang/IndexOutOfBoundsException" eXs, vx_ot w = true := by decide +kernel
theorem xe_ok2 : ∀ w ∈ eAt2, vx_ot w = true := by decide +kernel
theorem xe_in1 : ∀ w ∈ vx_atS RX11 123 "java/lang/IndexOutOfBoundsException" eXs, w = Cond.castable "java/lang/IndexOutOfBoundsException" "java/lang/IndexOutOfBoundsException" ∨ w ∈ eDs.map Cond.declares ∨ w ∈ zgw := by decide +kernel
theorem xe_in2 : ∀ w ∈ eAt2, w = Cond.castable "java/util/NoSuchElementException" "java/util/NoSuchElementException" ∨ w ∈ eDs.map Cond.declares ∨ w ∈ zgw := by decide +kernel
theorem xw_1 : Cond.classLink RX11 119 "java/lang/IndexOutOfBoundsException" ∈ zgw := by decide +kernel
theorem xw_2 : Cond.initialized "java/lang/IndexOutOfBoundsException" ∈ zgw := by decide +kernel
theorem xw_3 : Cond.classLink RX11 153 "java/util/NoSuchElementException" ∈ zgw := by decide +kernel
theorem xw_4 : Cond.initialized "java/util/NoSuchElementException" ∈ zgw := by decide +kernel
theorem s_thr8 {G : zG} {X : zX} {K : Int32 → zM → Prop} {T : Nat → zM → Prop} (h : zC G X YX11_rap) (hE : zXE G X) : zAt G X YX11_rap (zXQ G X K T) 8 (g_thr T 1) := by
  intro ls st M H locs arr hf hM hS hL hst
  obtain ⟨hx, hb, hml, hown, hts, hr, hlk, hK, hI⟩ := h
  obtain ⟨hfl, ⟨hU, hN, ⟨sa, hsa⟩, ⟨sb, hsb⟩, -, hcs1, hcs2, hds⟩, hno⟩ := hE
  unfold g_thr at hf
  split at hf
  · refine vx_throwS (own := RX11) (cls := "java/lang/IndexOutOfBoundsException") (text := "no such RAP") (names := eXs) (ik := 119) (is := 121) (ic := 123) (sa := sa) hx hb hfl hown (by decide +kernel) (by decide +kernel) (hts _ xw_1) (hts _ xw_2) hsa (fun w hw => (xe_in1 w hw).elim (fun e => by rw [e]; exact hcs1.use) (fun z => z.elim (fun z => by obtain ⟨x9, hx9, rfl⟩ := List.mem_map.mp z; exact va_Nw.use rfl (hds x9 hx9)) (hts w))) (fun w hw => ?_) hU hN hS (hL.1.1.trans hml.symm) (by decide +kernel) (by decide +kernel) (by decide +kernel) (by decide +kernel) (by decide +kernel) (fun x hx => (hno x hx).elim) (by decide) (Nat.le_of_ble_eq_true rfl) (by decide) (by decide) hlk (fun t ha hsz hq => ⟨(1, M), hf, ⟨rfl, hM.up hq⟩, ⟨Nat.le_trans hS.1 hsz, fun q h1 h2 => (hq q (Nat.lt_of_lt_of_le h1 hS.1)).trans (hS.2.1 q h1 h2)⟩⟩) hS.2.2 (by decide) (by decide)
    rcases List.mem_cons.mp hw with rfl | hw
    · decide +kernel
    · rcases List.mem_cons.mp hw with rfl | hw
      · decide +kernel
      · exact xe_ok1 w hw
  · exact hf.elim
theorem s_thr140 {G : zG} {X : zX} {K : Int32 → zM → Prop} {T : Nat → zM → Prop} (h : zC G X YX11_rap) (hE : zXE G X) : zAt G X YX11_rap (zXQ G X K T) 140 (g_thr T 2) := by
  intro ls st M H locs arr hf hM hS hL hst
  obtain ⟨hx, hb, hml, hown, hts, hr, hlk, hK, hI⟩ := h
  obtain ⟨hfl, ⟨hU, hN, ⟨sa, hsa⟩, ⟨sb, hsb⟩, -, hcs1, hcs2, hds⟩, hno⟩ := hE
  unfold g_thr at hf
  split at hf
  · refine xt_throw (own := RX11) (cls := "java/util/NoSuchElementException") (cl2 := "java/lang/RuntimeException") (text := "no such what") (r9 := ["java/lang/Exception"]) (i0 := 13) (by0 := prog_30_method_4_code) (ik := 153) (is := 155) (ic := 157) (sa := sb) hx hb hfl (by decide +kernel) (by decide +kernel) (by decide +kernel) (by decide +kernel) hown (by decide +kernel) (by decide +kernel) (by decide +kernel) (hts _ xw_3) (hts _ xw_4) hsb (fun w hw => (xe_in2 w hw).elim (fun e => by rw [e]; exact hcs2.use) (fun z => z.elim (fun z => by obtain ⟨x9, hx9, rfl⟩ := List.mem_map.mp z; exact va_Nw.use rfl (hds x9 hx9)) (hts w))) (fun w hw => ?_) hU hN hS (hL.1.1.trans hml.symm) (by decide +kernel) (by decide +kernel) (by decide +kernel) (by decide +kernel) (by decide +kernel) (fun x hx => (hno x hx).elim) (by decide) (Nat.le_of_ble_eq_true rfl) (by decide) (by decide) hlk (fun t ha hsz hq => ⟨(2, M), hf, ⟨rfl, hM.up hq⟩, ⟨Nat.le_trans hS.1 hsz, fun q h1 h2 => (hq q (Nat.lt_of_lt_of_le h1 hS.1)).trans (hS.2.1 q h1 h2)⟩⟩) hS.2.2 (by decide) (by decide)
    rcases List.mem_cons.mp hw with rfl | hw
    · decide +kernel
    · rcases List.mem_cons.mp hw with rfl | hw
      · decide +kernel
      · exact xe_ok2 w hw
  · exact hf.elim
