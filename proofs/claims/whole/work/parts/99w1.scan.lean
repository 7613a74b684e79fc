theorem wi_125 : Cond.initialized "KnockBank$Scanner" ∈ zgw := zgw_1 3 rfl rfl
theorem wi_126 : Cond.initialized "java/lang/String" ∈ zgw := zgw_1 4 rfl rfl
theorem wi_167 : Cond.methodLink "KnockBank$Scanner" 3 Lib.objectInit ∈ zgw := zgw_1 45 rfl rfl
theorem wi_169 : Cond.methodLink "KnockBank$Scanner" 26 ⟨"java/lang/String", "length", "()I"⟩ ∈ zgw := zgw_1 47 rfl rfl
theorem wi_170 : Cond.instanceMethod ⟨"java/lang/String", "length", "()I"⟩ ∈ zgw := zgw_1 48 rfl rfl
theorem wi_171 : Cond.selects "java/lang/String" ⟨"java/lang/String", "length", "()I"⟩ ⟨"java/lang/String", "length", "()I"⟩ ∈ zgw := zgw_1 49 rfl rfl
theorem wi_172 : Cond.code ⟨"java/lang/String", "length", "()I"⟩ prog_23_method_54_code 1 (some .int) ∈ zgw := zgw_1 50 rfl rfl
theorem wi_179 : Cond.methodLink "KnockBank$Scanner" 32 ⟨"java/lang/String", "charAt", "(I)C"⟩ ∈ zgw := zgw_1 57 rfl rfl
theorem wi_180 : Cond.instanceMethod ⟨"java/lang/String", "charAt", "(I)C"⟩ ∈ zgw := zgw_1 58 rfl rfl
theorem wi_181 : Cond.selects "java/lang/String" ⟨"java/lang/String", "charAt", "(I)C"⟩ ⟨"java/lang/String", "charAt", "(I)C"⟩ ∈ zgw := zgw_1 59 rfl rfl
theorem wi_182 : Cond.code ⟨"java/lang/String", "charAt", "(I)C"⟩ prog_23_method_56_code 2 (some .char) ∈ zgw := zgw_1 60 rfl rfl
theorem wi_217 : Cond.methodLink "KnockBank$Scanner" 36 ⟨"KnockBank$Scanner", "letterBits", "(II)I"⟩ ∈ zgw := zgw_1 95 rfl rfl
theorem wi_218 : Cond.static ⟨"KnockBank$Scanner", "letterBits", "(II)I"⟩ ∈ zgw := zgw_1 96 rfl rfl
theorem wi_219 : Cond.code ⟨"KnockBank$Scanner", "letterBits", "(II)I"⟩ prog_9_method_13_code 3 (some .int) ∈ zgw := zgw_1 97 rfl rfl
theorem wi_220 : Cond.fieldLink "KnockBank$Scanner" 11 "KnockBank$Scanner" "words" "[I" ∈ zgw := zgw_1 98 rfl rfl
theorem wi_221 : Cond.fieldLink "KnockBank$Scanner" 15 "KnockBank$Scanner" "kinds" "[I" ∈ zgw := zgw_1 99 rfl rfl
theorem wi_222 : Cond.fieldLink "KnockBank$Scanner" 18 "KnockBank$Scanner" "starts" "[I" ∈ zgw := zgw_1 100 rfl rfl
theorem wi_223 : Cond.fieldLink "KnockBank$Scanner" 21 "KnockBank$Scanner" "values" "[I" ∈ zgw := zgw_1 101 rfl rfl
theorem sg_len : GoodIn zgw (wsV RX7 26 RJ0 yJ0_length_8abf5 (zws yJ0_length_8abf5 YJlength)) := zgw_in (fun w h => by
  rcases List.mem_append.mp h with h | h
  · simp only [List.mem_cons, List.not_mem_nil, or_false] at h
    rcases h with rfl | rfl | rfl | rfl
    · exact wi_169
    · exact wi_170
    · exact wi_171
    · exact wi_126
  · rcases List.mem_cons.mp h with rfl | h
    · exact wi_172
    · exact h)
theorem sg_chr : GoodIn zgw (wsV RX7 32 RJ0 yJ0_charAt_5068e (zws yJ0_charAt_5068e YJcharAt)) := zgw_in (fun w h => by
  rcases List.mem_append.mp h with h | h
  · simp only [List.mem_cons, List.not_mem_nil, or_false] at h
    rcases h with rfl | rfl | rfl | rfl
    · exact wi_179
    · exact wi_180
    · exact wi_181
    · exact wi_126
  · rcases List.mem_cons.mp h with rfl | h
    · exact wi_182
    · exact h)
noncomputable def scT : List (Nat × Nat × Nat) := [(0, 0, 0), (0, 1, 268435456), (0, 2, 269484032), (0, 3, 269942784), (0, 4, 269946880), (1, 0, 0), (1, 1, 771751936), (1, 2, 787480576), (1, 3, 787972096), (1, 4, 787976192), (2, 0, 0), (2, 1, 603979776), (2, 2, 605028352), (2, 3, 605552640), (3, 0, 0), (3, 1, 402653184), (3, 2, 412090368), (3, 3, 412450816), (3, 4, 412455936), (4, 0, 0), (4, 1, 637534208), (4, 2, 642777088), (4, 3, 642940928), (4, 4, 642945024), (5, 0, 0), (5, 1, 402653184), (5, 2, 403701760), (5, 3, 404455424), (6, 0, 0), (6, 1, 637534208), (6, 2, 645922816), (6, 3, 645955584), (6, 4, 645966848), (6, 5, 645967008), (7, 0, 0), (7, 1, 469762048), (7, 2, 475004928), (7, 3, 475037696), (7, 4, 475056128), (8, 0, 0), (8, 1, 201326592), (8, 2, 202375168), (8, 3, 202506240), (8, 4, 202511360), (9, 0, 0), (9, 1, 503316480), (9, 2, 522190848), (10, 0, 0), (10, 1, 33554432), (10, 2, 48234496), (10, 3, 48365568), (11, 0, 0), (11, 1, 469762048), (11, 2, 485490688), (11, 3, 486146048), (12, 0, 0), (12, 1, 100663296), (12, 2, 116391936), (12, 3, 116785152), (12, 4, 116789248), (13, 0, 0), (13, 1, 33554432), (13, 2, 40894464), (13, 3, 41058304), (13, 4, 41062400), (14, 0, 0), (14, 1, 268435456), (14, 2, 269484032), (14, 3, 270073856), (14, 4, 270077952), (15, 0, 0), (15, 1, 67108864), (15, 2, 72351744), (15, 3, 72384512), (15, 4, 72404992), (16, 0, 0), (16, 1, 536870912), (16, 2, 549453824), (16, 3, 549486592), (16, 4, 549489664), (16, 5, 549489824), (17, 0, 0), (17, 1, 603979776), (17, 2, 605028352), (17, 3, 605552640), (17, 4, 605572096), (18, 0, 0), (18, 1, 134217728), (18, 2, 135266304), (18, 3, 136085504)]
noncomputable def wcn : List Nat := [104, 97, 110, 100, 32, 119, 111, 111, 100, 32, 114, 97, 112, 32, 108, 105, 107, 101, 32, 115, 101, 101, 100, 32, 108, 97, 119, 32, 115, 104, 97, 107, 101, 32, 110, 101, 97, 114, 32, 102, 97, 100, 101, 32, 111, 114, 32, 97, 110, 100, 32, 110, 111, 116, 32, 99, 111, 108, 100, 32, 97, 103, 101, 100, 32, 104, 97, 114, 100, 32, 98, 101, 97, 116, 32, 112, 108, 97, 99, 101, 32, 114, 97, 112, 115, 32, 100, 97, 121]
noncomputable def scG (i : Nat) : Nat × Nat × List Int32 := ((scT.getD i (0, 0, 0)).1, (scT.getD i (0, 0, 0)).2.1, wrdC.take (scT.getD i (0, 0, 0)).1 ++ nI (scT.getD i (0, 0, 0)).2.2 :: List.replicate (18 - (scT.getD i (0, 0, 0)).1) 0)
theorem sc_ch : ∀ i, i < 89 → wch i = nI (wcn.getD i 0) := by decide +kernel
theorem sc_w : ∀ i, i < 89 → (scG i).1 < 19 ∧ wcn.getD i 0 < 200 := by decide +kernel
theorem sc_len : ∀ i, i < 90 → (scG i).2.2.length = 19 := by decide +kernel
theorem sc_st : ∀ i, i < 89 → scG (i + 1) = if wcn.getD i 0 = 32 then ((scG i).1 + 1, 0, (scG i).2.2) else ((scG i).1, (scG i).2.1 + 1, (scG i).2.2.set (scG i).1 ((scG i).2.2.getD (scG i).1 0 ||| lb (wcn.getD i 0) (scG i).2.1)) := by decide +kernel
theorem sc_upd {l : List Int32} {w : Nat} {x : Int32} (h : w < l.length) : upd (fun j => l.getD j 0) w x = fun j => (l.set w x).getD j 0 := by
  funext j
  unfold upd
  by_cases e : j = w
  · subst e; rw [if_pos rfl]; simp [List.getD_eq_getElem?_getD, h]
  · rw [if_neg e]; simp [List.getD_eq_getElem?_getD, List.getElem?_set, Ne.symm e]
theorem sc_0 : (fun j => (scG 0).2.2.getD j 0) = fun _ => (0 : Int32) := by
  have e : (scG 0).2.2 = List.replicate 19 (0 : Int32) := by decide +kernel
  funext j
  rw [e, List.getD_eq_getElem?_getD, List.getElem?_replicate]
  split <;> rfl
section SC
variable {G : zG} {X : zX} {Y : zY} {Q : State → Prop} {pc kc ks a : Nat} {H : Heap} {locs : List Loc} {arr : Array Slot} {rest : List Value}
theorem i_pure {cn : Nat → Nat} {G9 : zG} {K : zQ} {av : Array Value} {st0 : List Value} (hcv : ∀ v : zV, (∀ q, v ≠ .inr (.inr q)) → zcv G9 v = zcv G v) (hG9 : G9.1 = G.1) (hg : G9.2.1 = H.size) (hr : va_Run X.1 G.1 X.2.1 Y.2.2.2.2 X.2.2.1 X.2.2.2.1 X.2.2.2.2.1 X.2.2.2.2.2.1 X.2.2.2.2.2.2.1 X.2.2.2.2.2.2.2 H locs kc ks 0 0 (zFr X pc arr st0) rest (yPost cn G9 K av) (zA G9)) (hS : va_S (bA a) X.2.2.1.heap H locs) (ha : a ≤ H.size)
    (kk : ∀ (r : List zV) (M : zM) (H1 : Heap) (locs1 : List Loc), K r M → (∀ q : Nat, q < H.size → H1[q]? = H[q]?) → va_S (bA a) X.2.2.1.heap H1 locs1 → zWL G X Y kc ks H1 locs1 Q (zFr X (pc + 3) arr ((r.map (zcv G9)).head?.toList ++ rest))) : zWL G X Y kc ks H locs Q (zFr X pc arr st0) := by
  intro T hT X9
  obtain ⟨v, st₀, t, T', L, h0, X', hL, e1, e2, ⟨⟨r, M, hv, hlen, hK, hM, hok⟩, hz, hk⟩, st⟩ := hr T hT X9
  rw [h0] at hz hk
  have hk2 : ∀ q : Nat, q < H.size → T'.heap[q]? = H[q]? := fun q hq => by rw [e1]; exact hk q hq (fun z => by have z : G9.2.1 ≤ q := z; omega)
  cases hv
  obtain ⟨t2, a1, b1⟩ := kk r M T'.heap (locs ++ L) hK hk2
    ⟨Nat.le_trans hS.1 (by rw [e1]; exact hz), fun q h1 h2 => (hk2 q (Nat.lt_of_lt_of_le h1 hS.1)).trans (hS.2.1 q h1 h2), fun q hq => by
      rcases List.mem_append.mp hq with h | h
      · exact hS.2.2 q h
      · have h2 : G9.2.1 ≤ q.base := hL q h
        show a ≤ q.base
        omega⟩ T' rfl X'
  exact ⟨t2, st t2 a1, b1⟩
end SC
