-- THE JDK'S OWN METHODS OVER THE WORDS' TEXT
abbrev jN : Nat → Prop := fun _ => False
def wch (j : Nat) : Int32 := ((wby.getD j 0 &&& 255).toUInt32 % 65536).toInt32
theorem wj_126 : Cond.initialized "java/lang/String" ∈ zgw := zgw_1 4 rfl rfl
theorem wj_127 : Cond.initialized "java/lang/StringLatin1" ∈ zgw := zgw_1 5 rfl rfl
theorem wj_128 : Cond.initialized "jdk/internal/util/Preconditions" ∈ zgw := zgw_1 6 rfl rfl
theorem wj_173 : Cond.methodLink "java/lang/String" 335 ⟨"java/lang/String", "coder", "()B"⟩ ∈ zgw := zgw_1 51 rfl rfl
theorem wj_174 : Cond.instanceMethod ⟨"java/lang/String", "coder", "()B"⟩ ∈ zgw := zgw_1 52 rfl rfl
theorem wj_175 : Cond.selects "java/lang/String" ⟨"java/lang/String", "coder", "()B"⟩ ⟨"java/lang/String", "coder", "()B"⟩ ∈ zgw := zgw_1 53 rfl rfl
theorem wj_176 : Cond.code ⟨"java/lang/String", "coder", "()B"⟩ prog_23_method_152_code 1 (some .byte) ∈ zgw := zgw_1 54 rfl rfl
theorem wj_177 : Cond.fieldLink "java/lang/String" 38 "java/lang/String" "COMPACT_STRINGS" "Z" ∈ zgw := zgw_1 55 rfl rfl
theorem wj_183 : Cond.methodLink "java/lang/String" 492 ⟨"java/lang/String", "isLatin1", "()Z"⟩ ∈ zgw := zgw_1 61 rfl rfl
theorem wj_184 : Cond.instanceMethod ⟨"java/lang/String", "isLatin1", "()Z"⟩ ∈ zgw := zgw_1 62 rfl rfl
theorem wj_185 : Cond.selects "java/lang/String" ⟨"java/lang/String", "isLatin1", "()Z"⟩ ⟨"java/lang/String", "isLatin1", "()Z"⟩ ∈ zgw := zgw_1 63 rfl rfl
theorem wj_186 : Cond.code ⟨"java/lang/String", "isLatin1", "()Z"⟩ prog_23_method_154_code 1 (some .boolean) ∈ zgw := zgw_1 64 rfl rfl
theorem wj_187 : Cond.methodLink "java/lang/String" 495 ⟨"java/lang/StringLatin1", "charAt", "([BI)C"⟩ ∈ zgw := zgw_1 65 rfl rfl
theorem wj_188 : Cond.static ⟨"java/lang/StringLatin1", "charAt", "([BI)C"⟩ ∈ zgw := zgw_1 66 rfl rfl
theorem wj_189 : Cond.code ⟨"java/lang/StringLatin1", "charAt", "([BI)C"⟩ prog_24_method_2_code 2 (some .char) ∈ zgw := zgw_1 67 rfl rfl
theorem wj_190 : Cond.methodLink "java/lang/StringLatin1" 9 ⟨"java/lang/String", "checkIndex", "(II)V"⟩ ∈ zgw := zgw_1 68 rfl rfl
theorem wj_191 : Cond.static ⟨"java/lang/String", "checkIndex", "(II)V"⟩ ∈ zgw := zgw_1 69 rfl rfl
theorem wj_192 : Cond.code ⟨"java/lang/String", "checkIndex", "(II)V"⟩ prog_23_method_155_code 2 none ∈ zgw := zgw_1 70 rfl rfl
theorem wj_193 : Cond.fieldLink "java/lang/String" 1053 "jdk/internal/util/Preconditions" "SIOOBE_FORMATTER" "Ljava/util/function/BiFunction;" ∈ zgw := zgw_1 71 rfl rfl
theorem wj_195 : Cond.methodLink "java/lang/String" 1059 ⟨"jdk/internal/util/Preconditions", "checkIndex", "(IILjava/util/function/BiFunction;)I"⟩ ∈ zgw := zgw_1 73 rfl rfl
theorem wj_196 : Cond.static ⟨"jdk/internal/util/Preconditions", "checkIndex", "(IILjava/util/function/BiFunction;)I"⟩ ∈ zgw := zgw_1 74 rfl rfl
theorem wj_197 : Cond.code ⟨"jdk/internal/util/Preconditions", "checkIndex", "(IILjava/util/function/BiFunction;)I"⟩ prog_31_method_11_code 3 (some .int) ∈ zgw := zgw_1 75 rfl rfl
theorem wj_2165 : Cond.fieldLink "java/lang/String" 9 "java/lang/String" "value" "[B" ∈ zgw := zgw_9 123 rfl rfl
theorem wj_2166 : Cond.fieldLink "java/lang/String" 15 "java/lang/String" "coder" "B" ∈ zgw := zgw_9 124 rfl rfl
abbrev YJcoder : zY := (RJ0, cJ0_coder_7d493, 1, (some .byte), { frames := 0, cells := 0, slots := 0, locals := 0 })
set_option maxHeartbeats 2000000 in
theorem jc_coder {G : zG} {K V : Nat}  : Met G.1 yJ0_coder_7d493 (zws yJ0_coder_7d493 YJcoder) YJcoder.2.2.2.2 (va_Pc [.ref K] (fun U => zSt K V jN U U.heap)) (va_Qi (fun r (_ : Unit) => r = 0) (fun _ _ => True) jN) 0 0 jN := by
  refine Met.ofW (cc := cJ0_coder_7d493) (maxL := 1) (ret := (some .byte)) (by decide) rfl ?_
  intro p e s m args below meth c s₁ B hml hv
  obtain ⟨rfl, hE⟩ := hv
  have hx := B.exec
  have hb := B.bytes
  have hr := B.returns
  have hlocks := B.notSynchronized
  have hts : ∀ w ∈ zgw, w.before _ s = true := fun w h => atoms_spec (ws := zws yJ0_coder_7d493 YJcoder) B.pre w (List.mem_cons_of_mem _ h)
  have hown : s.vm.findClass RJ0 = some m.cls := findClass_of_methodNamed B.named
  have hS : va_S jN s.heap s.heap [] := va_S.rf
  have hl := lv_entry ([.ref K]) (n := 1) (Nat.le_of_ble_eq_true rfl)
  rw [lg_entry_eq]
  generalize (lg_sl ([.ref K]) ++ List.replicate (1 - (lg_sl ([.ref K])).length) Slot.unset).toArray = ls at hl ⊢
  have hl : lv_has ls 1 [(0, .ref K)] := hl
  refine va_gets hx hb hE.2.2.2.2.1 hS hown (hts _ wj_177) (fun _ h => h) (show decode cJ0_coder_7d493 0 = .ok (.getstatic 38, 3) by decide +kernel) ?_
  refine lv_if_eq (pc := 3) (tgt := 13) hx hb (show decode cJ0_coder_7d493 3 = .ok (.ifCond .eq 10, 3) by decide +kernel) (by decide) (fun z => absurd z (by decide)) (fun _ => ?_)
  refine lv_aload_n hx hb (show decode cJ0_coder_7d493 6 = .ok (.aload_n 0, 1) by decide +kernel) rfl (lv_at hl 0 rfl) ?_
  refine vk_getf hx hb hE.2.1 hS hown (hts _ wj_2166) (fun _ h => h) (show decode cJ0_coder_7d493 7 = .ok (.getfield 15, 3) by decide +kernel) ?_
  refine lv_goto (pc := 10) (tgt := 14) hx hb (show decode cJ0_coder_7d493 10 = .ok (.goto 4, 3) by decide +kernel) (by decide) ?_
  exact W.zret hx hb hr rfl (fun t ht _ => ⟨⟨0, (), rfl, rfl, trivial⟩, hS.F ht⟩) hS.2.2 (show decode cJ0_coder_7d493 14 = .ok (.ireturn, 1) by decide +kernel) hlocks
abbrev YJisLatin1 : zY := (RJ0, cJ0_isLatin1_aae02, 1, (some .boolean), { frames := 0, cells := 0, slots := 0, locals := 0 })
set_option maxHeartbeats 2000000 in
theorem jc_isLatin1 {G : zG} {K V : Nat}  : Met G.1 yJ0_isLatin1_aae02 (zws yJ0_isLatin1_aae02 YJisLatin1) YJisLatin1.2.2.2.2 (va_Pc [.ref K] (fun U => zSt K V jN U U.heap)) (va_Qi (fun r (_ : Unit) => r = 1) (fun _ _ => True) jN) 0 0 jN := by
  refine Met.ofW (cc := cJ0_isLatin1_aae02) (maxL := 1) (ret := (some .boolean)) (by decide) rfl ?_
  intro p e s m args below meth c s₁ B hml hv
  obtain ⟨rfl, hE⟩ := hv
  have hx := B.exec
  have hb := B.bytes
  have hr := B.returns
  have hlocks := B.notSynchronized
  have hts : ∀ w ∈ zgw, w.before _ s = true := fun w h => atoms_spec (ws := zws yJ0_isLatin1_aae02 YJisLatin1) B.pre w (List.mem_cons_of_mem _ h)
  have hown : s.vm.findClass RJ0 = some m.cls := findClass_of_methodNamed B.named
  have hS : va_S jN s.heap s.heap [] := va_S.rf
  have hl := lv_entry ([.ref K]) (n := 1) (Nat.le_of_ble_eq_true rfl)
  rw [lg_entry_eq]
  generalize (lg_sl ([.ref K]) ++ List.replicate (1 - (lg_sl ([.ref K])).length) Slot.unset).toArray = ls at hl ⊢
  have hl : lv_has ls 1 [(0, .ref K)] := hl
  refine va_gets hx hb hE.2.2.2.2.1 hS hown (hts _ wj_177) (fun _ h => h) (show decode cJ0_isLatin1_aae02 0 = .ok (.getstatic 38, 3) by decide +kernel) ?_
  refine lv_if_eq (pc := 3) (tgt := 17) hx hb (show decode cJ0_isLatin1_aae02 3 = .ok (.ifCond .eq 14, 3) by decide +kernel) (by decide) (fun z => absurd z (by decide)) (fun _ => ?_)
  refine lv_aload_n hx hb (show decode cJ0_isLatin1_aae02 6 = .ok (.aload_n 0, 1) by decide +kernel) rfl (lv_at hl 0 rfl) ?_
  refine vk_getf hx hb hE.2.1 hS hown (hts _ wj_2166) (fun _ h => h) (show decode cJ0_isLatin1_aae02 7 = .ok (.getfield 15, 3) by decide +kernel) ?_
  refine lv_if_ne (pc := 10) (tgt := 17) hx hb (show decode cJ0_isLatin1_aae02 10 = .ok (.ifCond .ne 7, 3) by decide +kernel) (by decide) (fun z => absurd rfl z) (fun _ => ?_)
  refine lv_iconst (v := 1) hx hb (show decode cJ0_isLatin1_aae02 13 = .ok (.iconst 1, 1) by decide +kernel) (by decide) ?_
  refine lv_goto (pc := 14) (tgt := 18) hx hb (show decode cJ0_isLatin1_aae02 14 = .ok (.goto 4, 3) by decide +kernel) (by decide) ?_
  exact W.zret hx hb hr rfl (fun t ht _ => ⟨⟨1, (), rfl, rfl, trivial⟩, hS.F ht⟩) hS.2.2 (show decode cJ0_isLatin1_aae02 18 = .ok (.ireturn, 1) by decide +kernel) hlocks
abbrev YJlength : zY := (RJ0, cJ0_length_8abf5, 1, (some .int), { frames := 1, cells := 0, slots := 0, locals := 20 })
set_option maxHeartbeats 2000000 in
theorem jc_length {G : zG} {K V : Nat}  : Met G.1 yJ0_length_8abf5 (zws yJ0_length_8abf5 YJlength) YJlength.2.2.2.2 (va_Pc [.ref K] (fun U => zSt K V jN U U.heap)) (va_Qi (fun r (_ : Unit) => r = 89) (fun _ _ => True) jN) 0 0 jN := by
  refine Met.ofW (cc := cJ0_length_8abf5) (maxL := 1) (ret := (some .int)) (by decide) rfl ?_
  intro p e s m args below meth c s₁ B hml hv
  obtain ⟨rfl, hE⟩ := hv
  have hx := B.exec
  have hb := B.bytes
  have hr := B.returns
  have hlocks := B.notSynchronized
  have hts : ∀ w ∈ zgw, w.before _ s = true := fun w h => atoms_spec (ws := zws yJ0_length_8abf5 YJlength) B.pre w (List.mem_cons_of_mem _ h)
  have hown : s.vm.findClass RJ0 = some m.cls := findClass_of_methodNamed B.named
  have hS : va_S jN s.heap s.heap [] := va_S.rf
  have hl := lv_entry ([.ref K]) (n := 1) (Nat.le_of_ble_eq_true rfl)
  rw [lg_entry_eq]
  generalize (lg_sl ([.ref K]) ++ List.replicate (1 - (lg_sl ([.ref K])).length) Slot.unset).toArray = ls at hl ⊢
  have hl : lv_has ls 1 [(0, .ref K)] := hl
  refine lv_aload_n hx hb (show decode cJ0_length_8abf5 0 = .ok (.aload_n 0, 1) by decide +kernel) rfl (lv_at hl 0 rfl) ?_
  refine vk_getf hx hb hE.2.2.1 hS hown (hts _ wj_2165) (fun _ h => h) (show decode cJ0_length_8abf5 1 = .ok (.getfield 9, 3) by decide +kernel) ?_
  refine va_tlen hx hb hE.2.2.2.1 hS (v := 89) (by decide) (show decode cJ0_length_8abf5 4 = .ok (.arraylength, 1) by decide +kernel) ?_
  refine lv_aload_n hx hb (show decode cJ0_length_8abf5 5 = .ok (.aload_n 0, 1) by decide +kernel) rfl (lv_at hl 0 rfl) ?_
  have hG : GoodIn zgw (wsV RJ0 335 RJ0 yJ0_coder_7d493 (zws yJ0_coder_7d493 YJcoder)) := zgw_in (fun w h => by
    rcases List.mem_append.mp h with h | h
    · simp only [List.mem_cons, List.not_mem_nil, or_false] at h
      rcases h with rfl | rfl | rfl | rfl
      · exact wj_173
      · exact wj_174
      · exact wj_175
      · exact wj_126
    · rcases List.mem_cons.mp h with rfl | h
      · exact wj_176
      · exact h)
  obtain ⟨cell, g1, g2, g3, -⟩ := hE.1
  have run := va_runV (e := e) (R := YJlength.2.2.2.2) (below := below) (meth := meth) (locs := ([] : List Loc)) (H := s.heap) (As := []) (rest := [.int 89]) (b := K) (g := F0 m 6 ls [.ref K, .int 89]) (cells := 0) (slots := 0) ⟨hx, hb, hml, hown, hts⟩ (jc_coder (G := G) (K := K) (V := V)) (cwV 0 hts hG rfl rfl rfl ⟨rfl, by decide +kernel, by decide +kernel, by decide +kernel⟩ ⟨by decide, by decide⟩) ⟨(fun a U g mk q => ⟨q.1, zSt.moved (u := U) (Vm.Alike.refl U.vm) q.2⟩), ⟨cell, g1, g2, g3⟩, fun U hU hW => ⟨rfl, by show zSt K V jN U U.heap; rw [hU]; exact hE.moved hW.alike⟩⟩ rfl rfl hl.1 rfl (Nat.le_of_ble_eq_true rfl) (show decode cJ0_length_8abf5 6 = .ok (.invokevirtual 335, 3) by decide +kernel) ⟨by decide, by decide⟩
  refine va_calli run hS (fun q _ h => h) (fun q h => h) (fun v u t H1 locs1 ht hal hp hB hsz hq hS1 => ?_)
  subst hp
  refine lv_ishr hx hb (show decode cJ0_length_8abf5 9 = .ok (.ishr, 1) by decide +kernel) ?_
  exact W.iret hx hb hr (fun t ht _ => ⟨⟨_, (), rfl, by decide, trivial⟩, hS1.F ht⟩) hS1.2.2 (show decode cJ0_length_8abf5 10 = .ok (.ireturn, 1) by decide +kernel) hlocks
theorem jnl {i n : Nat} (h : i < n) (hn : n < 1000) : ¬ nI i < 0 ∧ nI i < nI n := ⟨fun z => by
  have := (n_lt (a := i) (b := 0) (by omega) (by omega)).mp z
  omega, (n_lt (by omega) (by omega)).mpr h⟩
abbrev YJpreN : zY := (RJ3, cJ3_checkIndex_8e157, 3, (some .int), { frames := 0, cells := 0, slots := 0, locals := 0 })
set_option maxHeartbeats 2000000 in
theorem jc_preN {G : zG} {K V : Nat} {i n q : Nat} (hi : i < n) (hn : n < 1000) : Met G.1 yJ3_checkIndex_8e157 (zws yJ3_checkIndex_8e157 YJpreN) YJpreN.2.2.2.2 (va_Pc [.int (nI i), .int (nI n), .null] (fun U => True)) (va_Qi (fun r (_ : Unit) => r = nI i) (fun _ _ => True) jN) 0 0 jN := by
  refine Met.ofW (cc := cJ3_checkIndex_8e157) (maxL := 3) (ret := (some .int)) (by decide) rfl ?_
  intro p e s m args below meth c s₁ B hml hv
  obtain ⟨rfl, hE⟩ := hv
  have hx := B.exec
  have hb := B.bytes
  have hr := B.returns
  have hlocks := B.notSynchronized
  have hts : ∀ w ∈ zgw, w.before _ s = true := fun w h => atoms_spec (ws := zws yJ3_checkIndex_8e157 YJpreN) B.pre w (List.mem_cons_of_mem _ h)
  have hown : s.vm.findClass RJ3 = some m.cls := findClass_of_methodNamed B.named
  have hS : va_S jN s.heap s.heap [] := va_S.rf
  have hl := lv_entry ([.int (nI i), .int (nI n), .null]) (n := 3) (Nat.le_of_ble_eq_true rfl)
  rw [lg_entry_eq]
  generalize (lg_sl ([.int (nI i), .int (nI n), .null]) ++ List.replicate (3 - (lg_sl ([.int (nI i), .int (nI n), .null])).length) Slot.unset).toArray = ls at hl ⊢
  have hl : lv_has ls 3 [(0, .int (nI i)), (1, .int (nI n)), (2, .null)] := hl
  refine lv_iload_n hx hb (show decode cJ3_checkIndex_8e157 0 = .ok (.iload_n 0, 1) by decide +kernel) rfl (lv_at hl 0 rfl) ?_
  refine lv_if_lt (pc := 1) (tgt := 9) hx hb (show decode cJ3_checkIndex_8e157 1 = .ok (.ifCond .lt 8, 3) by decide +kernel) (by decide) (fun z => absurd z (jnl hi hn).1) (fun _ => ?_)
  refine lv_iload_n hx hb (show decode cJ3_checkIndex_8e157 4 = .ok (.iload_n 0, 1) by decide +kernel) rfl (lv_at hl 0 rfl) ?_
  refine lv_iload_n hx hb (show decode cJ3_checkIndex_8e157 5 = .ok (.iload_n 1, 1) by decide +kernel) rfl (lv_at hl 1 rfl) ?_
  refine lv_icmp_lt (pc := 6) (tgt := 16) hx hb (show decode cJ3_checkIndex_8e157 6 = .ok (.if_icmp .lt 10, 3) by decide +kernel) (by decide) (fun _ => ?_) (fun z => absurd (jnl hi hn).2 z)
  refine lv_iload_n hx hb (show decode cJ3_checkIndex_8e157 16 = .ok (.iload_n 0, 1) by decide +kernel) rfl (lv_at hl 0 rfl) ?_
  exact W.iret hx hb hr (fun t ht _ => ⟨⟨_, (), rfl, rfl, trivial⟩, hS.F ht⟩) hS.2.2 (show decode cJ3_checkIndex_8e157 17 = .ok (.ireturn, 1) by decide +kernel) hlocks
abbrev YJpreR : zY := (RJ3, cJ3_checkIndex_8e157, 3, (some .int), { frames := 0, cells := 0, slots := 0, locals := 0 })
set_option maxHeartbeats 2000000 in
theorem jc_preR {G : zG} {K V : Nat} {i n q : Nat} (hi : i < n) (hn : n < 1000) : Met G.1 yJ3_checkIndex_8e157 (zws yJ3_checkIndex_8e157 YJpreR) YJpreR.2.2.2.2 (va_Pc [.int (nI i), .int (nI n), .ref q] (fun U => True)) (va_Qi (fun r (_ : Unit) => r = nI i) (fun _ _ => True) jN) 0 0 jN := by
  refine Met.ofW (cc := cJ3_checkIndex_8e157) (maxL := 3) (ret := (some .int)) (by decide) rfl ?_
  intro p e s m args below meth c s₁ B hml hv
  obtain ⟨rfl, hE⟩ := hv
  have hx := B.exec
  have hb := B.bytes
  have hr := B.returns
  have hlocks := B.notSynchronized
  have hts : ∀ w ∈ zgw, w.before _ s = true := fun w h => atoms_spec (ws := zws yJ3_checkIndex_8e157 YJpreR) B.pre w (List.mem_cons_of_mem _ h)
  have hown : s.vm.findClass RJ3 = some m.cls := findClass_of_methodNamed B.named
  have hS : va_S jN s.heap s.heap [] := va_S.rf
  have hl := lv_entry ([.int (nI i), .int (nI n), .ref q]) (n := 3) (Nat.le_of_ble_eq_true rfl)
  rw [lg_entry_eq]
  generalize (lg_sl ([.int (nI i), .int (nI n), .ref q]) ++ List.replicate (3 - (lg_sl ([.int (nI i), .int (nI n), .ref q])).length) Slot.unset).toArray = ls at hl ⊢
  have hl : lv_has ls 3 [(0, .int (nI i)), (1, .int (nI n)), (2, .ref q)] := hl
  refine lv_iload_n hx hb (show decode cJ3_checkIndex_8e157 0 = .ok (.iload_n 0, 1) by decide +kernel) rfl (lv_at hl 0 rfl) ?_
  refine lv_if_lt (pc := 1) (tgt := 9) hx hb (show decode cJ3_checkIndex_8e157 1 = .ok (.ifCond .lt 8, 3) by decide +kernel) (by decide) (fun z => absurd z (jnl hi hn).1) (fun _ => ?_)
  refine lv_iload_n hx hb (show decode cJ3_checkIndex_8e157 4 = .ok (.iload_n 0, 1) by decide +kernel) rfl (lv_at hl 0 rfl) ?_
  refine lv_iload_n hx hb (show decode cJ3_checkIndex_8e157 5 = .ok (.iload_n 1, 1) by decide +kernel) rfl (lv_at hl 1 rfl) ?_
  refine lv_icmp_lt (pc := 6) (tgt := 16) hx hb (show decode cJ3_checkIndex_8e157 6 = .ok (.if_icmp .lt 10, 3) by decide +kernel) (by decide) (fun _ => ?_) (fun z => absurd (jnl hi hn).2 z)
  refine lv_iload_n hx hb (show decode cJ3_checkIndex_8e157 16 = .ok (.iload_n 0, 1) by decide +kernel) rfl (lv_at hl 0 rfl) ?_
  exact W.iret hx hb hr (fun t ht _ => ⟨⟨_, (), rfl, rfl, trivial⟩, hS.F ht⟩) hS.2.2 (show decode cJ3_checkIndex_8e157 17 = .ok (.ireturn, 1) by decide +kernel) hlocks
abbrev YJci : zY := (RJ0, cJ0_checkIndex_df160, 2, none, { frames := 1, cells := 0, slots := 0, locals := 22 })
set_option maxHeartbeats 2000000 in
theorem jc_ci {G : zG} {K V : Nat} {i n : Nat} (hi : i < n) (hn : n < 1000) : Met G.1 yJ0_checkIndex_df160 (zws yJ0_checkIndex_df160 YJci) YJci.2.2.2.2 (va_Pc [.int (nI i), .int (nI n)] (fun U => zSt K V jN U U.heap)) (va_Qv (fun _ : Unit => True) (fun _ _ => True) jN) 0 0 jN := by
  refine Met.ofW (cc := cJ0_checkIndex_df160) (maxL := 2) (ret := none) (by decide) rfl ?_
  intro p e s m args below meth c s₁ B hml hv
  obtain ⟨rfl, hE⟩ := hv
  have hx := B.exec
  have hb := B.bytes
  have hr := B.returns
  have hlocks := B.notSynchronized
  have hts : ∀ w ∈ zgw, w.before _ s = true := fun w h => atoms_spec (ws := zws yJ0_checkIndex_df160 YJci) B.pre w (List.mem_cons_of_mem _ h)
  have hown : s.vm.findClass RJ0 = some m.cls := findClass_of_methodNamed B.named
  have hS : va_S jN s.heap s.heap [] := va_S.rf
  have hl := lv_entry ([.int (nI i), .int (nI n)]) (n := 2) (Nat.le_of_ble_eq_true rfl)
  rw [lg_entry_eq]
  generalize (lg_sl ([.int (nI i), .int (nI n)]) ++ List.replicate (2 - (lg_sl ([.int (nI i), .int (nI n)])).length) Slot.unset).toArray = ls at hl ⊢
  have hl : lv_has ls 2 [(0, .int (nI i)), (1, .int (nI n))] := hl
  refine lv_iload_n hx hb (show decode cJ0_checkIndex_df160 0 = .ok (.iload_n 0, 1) by decide +kernel) rfl (lv_at hl 0 rfl) ?_
  refine lv_iload_n hx hb (show decode cJ0_checkIndex_df160 1 = .ok (.iload_n 1, 1) by decide +kernel) rfl (lv_at hl 1 rfl) ?_
  rcases hE.2.2.2.2.2 with hZ | ⟨q, hZ⟩
  · refine va_gets hx hb hZ hS hown (hts _ wj_193) (fun _ h => h) (show decode cJ0_checkIndex_df160 2 = .ok (.getstatic 1053, 3) by decide +kernel) ?_
    have hG : GoodIn zgw (va_wsS RJ0 1059 yJ3_checkIndex_8e157 (zws yJ3_checkIndex_8e157 YJpreN)) := zgw_in (fun w h => by
        unfold va_wsS at h
        rcases List.mem_append.mp h with h | h
        · simp only [List.mem_cons, List.not_mem_nil, or_false] at h
          rcases h with rfl | rfl | rfl
          · exact wj_195
          · exact wj_196
          · exact wj_128
        · rcases List.mem_cons.mp h with rfl | h
          · exact wj_197
          · exact h)
    have run := va_runS (e := e) (R := YJci.2.2.2.2) (below := below) (meth := meth) (locs := ([] : List Loc)) (H := s.heap) (As := [.int (nI i), .int (nI n), .null]) (rest := []) (g := F0 m 5 ls [.null, .int (nI n), .int (nI i)]) (cells := 0) (slots := 0) ⟨hx, hb, hml, hown, hts⟩ (jc_preN (G := G) (K := K) (V := V) (q := 0) hi hn) (va_cwS 3 hts hG rfl rfl rfl ⟨by decide +kernel, by decide +kernel, by decide +kernel⟩ ⟨by decide, by decide⟩) ⟨(fun a U g mk q => q), fun U hU hW => ⟨rfl, trivial⟩⟩ rfl rfl hl.1 rfl (Nat.le_of_ble_eq_true rfl) (show decode cJ0_checkIndex_df160 5 = .ok (.invokestatic 1059, 3) by decide +kernel) ⟨by decide, by decide⟩
    refine va_calli run hS (fun q _ h => h) (fun q h => h) (fun v u t H1 locs1 ht hal hp hB hsz hq hS1 => ?_)
    refine lv_pop hx hb (show decode cJ0_checkIndex_df160 8 = .ok (.pop, 1) by decide +kernel) rfl ?_
    exact W.vret hx hb hr (fun t ht _ => ⟨⟨(), rfl, trivial, trivial⟩, hS1.F ht⟩) hS1.2.2 (show decode cJ0_checkIndex_df160 9 = .ok (.return_, 1) by decide +kernel) hlocks
  · refine va_gets hx hb hZ hS hown (hts _ wj_193) (fun _ h => h) (show decode cJ0_checkIndex_df160 2 = .ok (.getstatic 1053, 3) by decide +kernel) ?_
    have hG : GoodIn zgw (va_wsS RJ0 1059 yJ3_checkIndex_8e157 (zws yJ3_checkIndex_8e157 YJpreR)) := zgw_in (fun w h => by
        unfold va_wsS at h
        rcases List.mem_append.mp h with h | h
        · simp only [List.mem_cons, List.not_mem_nil, or_false] at h
          rcases h with rfl | rfl | rfl
          · exact wj_195
          · exact wj_196
          · exact wj_128
        · rcases List.mem_cons.mp h with rfl | h
          · exact wj_197
          · exact h)
    have run := va_runS (e := e) (R := YJci.2.2.2.2) (below := below) (meth := meth) (locs := ([] : List Loc)) (H := s.heap) (As := [.int (nI i), .int (nI n), .ref q]) (rest := []) (g := F0 m 5 ls [.ref q, .int (nI n), .int (nI i)]) (cells := 0) (slots := 0) ⟨hx, hb, hml, hown, hts⟩ (jc_preR (G := G) (K := K) (V := V) (q := q) hi hn) (va_cwS 3 hts hG rfl rfl rfl ⟨by decide +kernel, by decide +kernel, by decide +kernel⟩ ⟨by decide, by decide⟩) ⟨(fun a U g mk q => q), fun U hU hW => ⟨rfl, trivial⟩⟩ rfl rfl hl.1 rfl (Nat.le_of_ble_eq_true rfl) (show decode cJ0_checkIndex_df160 5 = .ok (.invokestatic 1059, 3) by decide +kernel) ⟨by decide, by decide⟩
    refine va_calli run hS (fun q _ h => h) (fun q h => h) (fun v u t H1 locs1 ht hal hp hB hsz hq hS1 => ?_)
    refine lv_pop hx hb (show decode cJ0_checkIndex_df160 8 = .ok (.pop, 1) by decide +kernel) rfl ?_
    exact W.vret hx hb hr (fun t ht _ => ⟨⟨(), rfl, trivial, trivial⟩, hS1.F ht⟩) hS1.2.2 (show decode cJ0_checkIndex_df160 9 = .ok (.return_, 1) by decide +kernel) hlocks
theorem wch_ok : ∀ j, j < 89 → narrow .char (.int (wch j)) = .int (wch j) := by decide +kernel
abbrev YJlat : zY := (RJ1, cJ1_charAt_3b067, 2, (some .char), { frames := 2, cells := 0, slots := 0, locals := 43 })
set_option maxHeartbeats 2000000 in
theorem jc_lat {G : zG} {K V : Nat} {i : Nat} (hi : i < 89) : Met G.1 yJ1_charAt_3b067 (zws yJ1_charAt_3b067 YJlat) YJlat.2.2.2.2 (va_Pc [.ref V, .int (nI i)] (fun U => zSt K V jN U U.heap)) (va_Qi (fun r (_ : Unit) => r = wch i) (fun _ _ => True) jN) 0 0 jN := by
  refine Met.ofW (cc := cJ1_charAt_3b067) (maxL := 2) (ret := (some .char)) (by decide) rfl ?_
  intro p e s m args below meth c s₁ B hml hv
  obtain ⟨rfl, hE⟩ := hv
  have hx := B.exec
  have hb := B.bytes
  have hr := B.returns
  have hlocks := B.notSynchronized
  have hts : ∀ w ∈ zgw, w.before _ s = true := fun w h => atoms_spec (ws := zws yJ1_charAt_3b067 YJlat) B.pre w (List.mem_cons_of_mem _ h)
  have hown : s.vm.findClass RJ1 = some m.cls := findClass_of_methodNamed B.named
  have hS : va_S jN s.heap s.heap [] := va_S.rf
  have hl := lv_entry ([.ref V, .int (nI i)]) (n := 2) (Nat.le_of_ble_eq_true rfl)
  rw [lg_entry_eq]
  generalize (lg_sl ([.ref V, .int (nI i)]) ++ List.replicate (2 - (lg_sl ([.ref V, .int (nI i)])).length) Slot.unset).toArray = ls at hl ⊢
  have hl : lv_has ls 2 [(0, .ref V), (1, .int (nI i))] := hl
  refine lv_iload_n hx hb (show decode cJ1_charAt_3b067 0 = .ok (.iload_n 1, 1) by decide +kernel) rfl (lv_at hl 1 rfl) ?_
  refine lv_aload_n hx hb (show decode cJ1_charAt_3b067 1 = .ok (.aload_n 0, 1) by decide +kernel) rfl (lv_at hl 0 rfl) ?_
  refine va_tlen hx hb hE.2.2.2.1 hS (v := nI 89) rfl (show decode cJ1_charAt_3b067 2 = .ok (.arraylength, 1) by decide +kernel) ?_
  have hG : GoodIn zgw (va_wsS RJ1 9 yJ0_checkIndex_df160 (zws yJ0_checkIndex_df160 YJci)) := zgw_in (fun w h => by
    unfold va_wsS at h
    rcases List.mem_append.mp h with h | h
    · simp only [List.mem_cons, List.not_mem_nil, or_false] at h
      rcases h with rfl | rfl | rfl
      · exact wj_190
      · exact wj_191
      · exact wj_126
    · rcases List.mem_cons.mp h with rfl | h
      · exact wj_192
      · exact h)
  have run := va_runS (e := e) (R := YJlat.2.2.2.2) (below := below) (meth := meth) (locs := ([] : List Loc)) (H := s.heap) (As := [.int (nI i), .int (nI 89)]) (rest := []) (g := F0 m 3 ls [.int (nI 89), .int (nI i)]) (cells := 0) (slots := 0) ⟨hx, hb, hml, hown, hts⟩ (jc_ci (G := G) (K := K) (V := V) hi (by decide)) (va_cwS 2 hts hG rfl rfl rfl ⟨by decide +kernel, by decide +kernel, by decide +kernel⟩ ⟨by decide, by decide⟩) ⟨(fun a U g mk q => ⟨q.1, zSt.moved (u := U) (Vm.Alike.refl U.vm) q.2⟩), fun U hU hW => ⟨rfl, by show zSt K V jN U U.heap; rw [hU]; exact hE.moved hW.alike⟩⟩ rfl rfl hl.1 rfl (Nat.le_of_ble_eq_true rfl) (show decode cJ1_charAt_3b067 3 = .ok (.invokestatic 9, 3) by decide +kernel) ⟨by decide, by decide⟩
  refine va_callv run hS (fun q _ h => h) (fun q h => h) (fun u t H1 locs1 ht hal hp hB hsz hq hS1 => ?_)
  refine lv_aload_n hx hb (show decode cJ1_charAt_3b067 6 = .ok (.aload_n 0, 1) by decide +kernel) rfl (lv_at hl 0 rfl) ?_
  refine lv_iload_n hx hb (show decode cJ1_charAt_3b067 7 = .ok (.iload_n 1, 1) by decide +kernel) rfl (lv_at hl 1 rfl) ?_
  refine va_tb hx hb hE.2.2.2.1 hS1 (vp_in_nI hi (by decide)) (v := .int (wby.getD i 0)) (by rw [n_cl (by omega)]) (show decode cJ1_charAt_3b067 8 = .ok (.baload, 1) by decide +kernel) ?_
  refine lv_sipush (v := 255) hx hb (show decode cJ1_charAt_3b067 9 = .ok (.sipush 255, 3) by decide +kernel) (by decide) ?_
  refine lv_iand hx hb (show decode cJ1_charAt_3b067 12 = .ok (.iand, 1) by decide +kernel) ?_
  refine lv_i2c (v := wch i) hx hb (show decode cJ1_charAt_3b067 13 = .ok (.i2c, 1) by decide +kernel) rfl ?_
  exact W.zret hx hb hr (wch_ok i hi) (fun t ht _ => ⟨⟨_, (), rfl, rfl, trivial⟩, hS1.F ht⟩) hS1.2.2 (show decode cJ1_charAt_3b067 14 = .ok (.ireturn, 1) by decide +kernel) hlocks
abbrev YJcharAt : zY := (RJ0, cJ0_charAt_5068e, 2, (some .char), { frames := 3, cells := 0, slots := 0, locals := 64 })
set_option maxHeartbeats 2000000 in
theorem jc_charAt {G : zG} {K V : Nat} {i : Nat} (hi : i < 89) : Met G.1 yJ0_charAt_5068e (zws yJ0_charAt_5068e YJcharAt) YJcharAt.2.2.2.2 (va_Pc [.ref K, .int (nI i)] (fun U => zSt K V jN U U.heap)) (va_Qi (fun r (_ : Unit) => r = wch i) (fun _ _ => True) jN) 0 0 jN := by
  refine Met.ofW (cc := cJ0_charAt_5068e) (maxL := 2) (ret := (some .char)) (by decide) rfl ?_
  intro p e s m args below meth c s₁ B hml hv
  obtain ⟨rfl, hE⟩ := hv
  have hx := B.exec
  have hb := B.bytes
  have hr := B.returns
  have hlocks := B.notSynchronized
  have hts : ∀ w ∈ zgw, w.before _ s = true := fun w h => atoms_spec (ws := zws yJ0_charAt_5068e YJcharAt) B.pre w (List.mem_cons_of_mem _ h)
  have hown : s.vm.findClass RJ0 = some m.cls := findClass_of_methodNamed B.named
  have hS : va_S jN s.heap s.heap [] := va_S.rf
  have hl := lv_entry ([.ref K, .int (nI i)]) (n := 2) (Nat.le_of_ble_eq_true rfl)
  rw [lg_entry_eq]
  generalize (lg_sl ([.ref K, .int (nI i)]) ++ List.replicate (2 - (lg_sl ([.ref K, .int (nI i)])).length) Slot.unset).toArray = ls at hl ⊢
  have hl : lv_has ls 2 [(0, .ref K), (1, .int (nI i))] := hl
  refine lv_aload_n hx hb (show decode cJ0_charAt_5068e 0 = .ok (.aload_n 0, 1) by decide +kernel) rfl (lv_at hl 0 rfl) ?_
  have hG0 : GoodIn zgw (wsV RJ0 492 RJ0 yJ0_isLatin1_aae02 (zws yJ0_isLatin1_aae02 YJisLatin1)) := zgw_in (fun w h => by
    rcases List.mem_append.mp h with h | h
    · simp only [List.mem_cons, List.not_mem_nil, or_false] at h
      rcases h with rfl | rfl | rfl | rfl
      · exact wj_183
      · exact wj_184
      · exact wj_185
      · exact wj_126
    · rcases List.mem_cons.mp h with rfl | h
      · exact wj_186
      · exact h)
  obtain ⟨cell, g1, g2, g3, -⟩ := id hE.1
  have run := va_runV (e := e) (R := YJcharAt.2.2.2.2) (below := below) (meth := meth) (locs := ([] : List Loc)) (H := s.heap) (As := []) (rest := []) (b := K) (g := F0 m 1 ls [.ref K]) (cells := 0) (slots := 0) ⟨hx, hb, hml, hown, hts⟩ (jc_isLatin1 (G := G) (K := K) (V := V)) (cwV 0 hts hG0 rfl rfl rfl ⟨rfl, by decide +kernel, by decide +kernel, by decide +kernel⟩ ⟨by decide, by decide⟩) ⟨(fun a U g mk q => ⟨q.1, zSt.moved (u := U) (Vm.Alike.refl U.vm) q.2⟩), ⟨cell, g1, g2, g3⟩, fun U hU hW => ⟨rfl, by show zSt K V jN U U.heap; rw [hU]; exact hE.moved hW.alike⟩⟩ rfl rfl hl.1 rfl (Nat.le_of_ble_eq_true rfl) (show decode cJ0_charAt_5068e 1 = .ok (.invokevirtual 492, 3) by decide +kernel) ⟨by decide, by decide⟩
  refine va_calli run hS (fun q _ h => h) (fun q h => h) (fun v u t H1 locs1 ht hal hp hB hsz hq hS1 => ?_)
  subst hp
  refine lv_if_eq (pc := 4) (tgt := 16) hx hb (show decode cJ0_charAt_5068e 4 = .ok (.ifCond .eq 12, 3) by decide +kernel) (by decide) (fun z => absurd z (by decide)) (fun _ => ?_)
  refine lv_aload_n hx hb (show decode cJ0_charAt_5068e 7 = .ok (.aload_n 0, 1) by decide +kernel) rfl (lv_at hl 0 rfl) ?_
  refine vk_getf hx hb hE.2.2.1 hS1 hown (hts _ wj_2165) (fun _ h => h) (show decode cJ0_charAt_5068e 8 = .ok (.getfield 9, 3) by decide +kernel) ?_
  refine lv_iload_n hx hb (show decode cJ0_charAt_5068e 11 = .ok (.iload_n 1, 1) by decide +kernel) rfl (lv_at hl 1 rfl) ?_
  have hG : GoodIn zgw (va_wsS RJ0 495 yJ1_charAt_3b067 (zws yJ1_charAt_3b067 YJlat)) := zgw_in (fun w h => by
    unfold va_wsS at h
    rcases List.mem_append.mp h with h | h
    · simp only [List.mem_cons, List.not_mem_nil, or_false] at h
      rcases h with rfl | rfl | rfl
      · exact wj_187
      · exact wj_188
      · exact wj_127
    · rcases List.mem_cons.mp h with rfl | h
      · exact wj_189
      · exact h)
  have run := va_runS (e := e) (R := YJcharAt.2.2.2.2) (below := below) (meth := meth) (locs := locs1) (H := H1) (As := [.ref V, .int (nI i)]) (rest := []) (g := F0 m 12 ls [.int (nI i), .ref V]) (cells := 0 + 0) (slots := 0 + 0) ⟨hx, hb, hml, hown, hts⟩ (jc_lat (G := G) (K := K) (V := V) hi) (va_cwS 2 hts hG rfl rfl rfl ⟨by decide +kernel, by decide +kernel, by decide +kernel⟩ ⟨by decide, by decide⟩) ⟨(fun a U g mk q => ⟨q.1, zSt.moved (u := U) (Vm.Alike.refl U.vm) q.2⟩), fun U hU hW => ⟨rfl, by show zSt K V jN U U.heap; rw [hU]; exact (hE.kept hS1.2.1).moved hW.alike⟩⟩ rfl rfl hl.1 rfl (Nat.le_of_ble_eq_true rfl) (show decode cJ0_charAt_5068e 12 = .ok (.invokestatic 495, 3) by decide +kernel) ⟨by decide, by decide⟩
  refine va_calli run hS1 (fun q _ h => h) (fun q h => h) (fun v u t H2 locs2 ht2 hal2 hp2 hB2 hsz2 hq2 hS2 => ?_)
  subst hp2
  exact W.zret hx hb hr (wch_ok i hi) (fun t ht _ => ⟨⟨_, (), rfl, rfl, trivial⟩, hS2.F ht⟩) hS2.2.2 (show decode cJ0_charAt_5068e 15 = .ok (.ireturn, 1) by decide +kernel) hlocks
