theorem wov_0 : Cond.arrayOver (.object "KnockBank$Hand") ∈ lw_tbl := by decide +kernel
theorem wov_1 : Cond.arrayOver (.object "KnockBank$Wood") ∈ lw_tbl := by decide +kernel
theorem wov_2 : Cond.arrayOver (.object "KnockBank$Rap") ∈ lw_tbl := by decide +kernel
theorem wov_3 : Cond.arrayOver (.object "KnockBank$Law") ∈ lw_tbl := by decide +kernel
theorem wnest : Cond.methodLinkNest "KnockBank$Scene" 174 ⟨"KnockBank", "digitsOf", "([I)I"⟩ "KnockBank" ∈ lw_tbl := by decide +kernel
theorem win_0 : Cond.instantiable RX0 6 ∈ zgw := by decide +kernel
theorem win_1 : Cond.instantiable RX1 5 ∈ zgw := by decide +kernel
theorem win_2 : Cond.instantiable RX2 3 ∈ zgw := by decide +kernel
theorem win_3 : Cond.instantiable RX3 7 ∈ zgw := by decide +kernel
theorem win_4 : Cond.instantiable RX4 3 ∈ zgw := by decide +kernel
theorem win_5 : Cond.instantiable RX5 10 ∈ zgw := by decide +kernel
theorem win_6 : Cond.instantiable RX6 5 ∈ zgw := by decide +kernel
theorem win_7 : Cond.instantiable RX7 12 ∈ zgw := by decide +kernel
theorem win_8 : Cond.instantiable RX8 18 ∈ zgw := by decide +kernel
theorem win_9 : Cond.instantiable RX9 15 ∈ zgw := by decide +kernel
theorem win_10 : Cond.instantiable RX10 4 ∈ zgw := by decide +kernel
theorem win_11 : Cond.instantiable RX11 15 ∈ zgw := by decide +kernel
theorem win_12 : Cond.instantiable RX12 79 ∈ zgw := by decide +kernel
-- WHAT STANDS AT THE LAW'S ENTRY
theorem st_arr {s : State} {args : Array Value} (hts : ∀ w ∈ lw_tbl, w.before args s = true) : ∀ j : Nat, ∃ cA : ClassId, j < 8 → ArrOfT s cA (zty j) ∧ va_RA s cA (zty j) := by
  intro j
  by_cases hj : j < 8
  · have prim : ∀ t : FieldType, (Cond.arrayClass t).before args s = true → ∃ cA : ClassId, ArrOfT s cA t ∧ s.vm.findClass ("[" ++ t.toString) = some cA := fun t h => by
      obtain ⟨c, k, comp, h1, h2, h3⟩ := Cond.arrayClass_spec (show (Cond.arrayClass t).holds args s none s [] = true from h)
      exact ⟨c, fun n z => ⟨fun k h => (by cases h), k, h2, comp, h3⟩, h1⟩
    have obj : ∀ C : String, (Cond.arrayOver (.object C)).before args s = true → ∃ cA : ClassId, ArrOfT s cA (.object C) ∧ va_RA s cA (.object C) := fun C h => by
      obtain ⟨comp, c, k, h1, -, h2, h3, h4⟩ := Cond.arrayOver_spec (show (Cond.arrayOver (.object C)).holds args s none s [] = true from h)
      exact ⟨c, fun n z => ⟨fun k h => (by cases h), k, h2, comp, h3⟩, k, comp, h2, h3, h1, h4⟩
    rcases (show j = 0 ∨ j = 1 ∨ j = 2 ∨ j = 3 ∨ j = 4 ∨ j = 5 ∨ j = 6 ∨ j = 7 by omega) with rfl | rfl | rfl | rfl | rfl | rfl | rfl | rfl
    · obtain ⟨c, h1, h2⟩ := prim .int (hts _ (zgw_tbl _ wi_262)); exact ⟨c, fun _ => ⟨h1, h2⟩⟩
    · obtain ⟨c, h1, h2⟩ := prim .byte (hts _ (zgw_tbl _ wi_261)); exact ⟨c, fun _ => ⟨h1, h2⟩⟩
    · obtain ⟨c, h1, h2⟩ := prim .boolean (hts _ (zgw_tbl _ wi_296)); exact ⟨c, fun _ => ⟨h1, h2⟩⟩
    · obtain ⟨c, h1, h2⟩ := prim .long (hts _ (zgw_tbl _ wi_374)); exact ⟨c, fun _ => ⟨h1, h2⟩⟩
    · obtain ⟨c, h⟩ := obj "KnockBank$Hand" (hts _ wov_0); exact ⟨c, fun _ => h⟩
    · obtain ⟨c, h⟩ := obj "KnockBank$Wood" (hts _ wov_1); exact ⟨c, fun _ => h⟩
    · obtain ⟨c, h⟩ := obj "KnockBank$Rap" (hts _ wov_2); exact ⟨c, fun _ => h⟩
    · obtain ⟨c, h⟩ := obj "KnockBank$Law" (hts _ wov_3); exact ⟨c, fun _ => h⟩
  · exact ⟨0, fun z => absurd z hj⟩
theorem st_cls {s : State} {args : Array Value} (hts : ∀ w ∈ lw_tbl, w.before args s = true) : ∀ k : Nat, ∃ x : ClassId × (Nat → Nat), ∀ q : vw_C, classes[k]? = some q → u_Kn s q.1 q.2.1 q.2.2 x.1 x.2 := by
  intro k
  by_cases hk : k < 13
  · rcases (show k = 0 ∨ k = 1 ∨ k = 2 ∨ k = 3 ∨ k = 4 ∨ k = 5 ∨ k = 6 ∨ k = 7 ∨ k = 8 ∨ k = 9 ∨ k = 10 ∨ k = 11 ∨ k = 12 by omega) with rfl | rfl | rfl | rfl | rfl | rfl | rfl | rfl | rfl | rfl | rfl | rfl | rfl
    · obtain ⟨c, i, h⟩ := u_known (C := RX0) (T := TX0) (N := 6) (n := 6) hts (fun w hw => zgw_tbl w (clX0.2.2.2.2.1 w hw)) (hts _ (zgw_tbl _ win_0)); exact ⟨(c, i), fun q hq => by cases hq; exact h⟩
    · obtain ⟨c, i, h⟩ := u_known (C := RX1) (T := TX1) (N := 5) (n := 5) hts (fun w hw => zgw_tbl w (clX1.2.2.2.2.1 w hw)) (hts _ (zgw_tbl _ win_1)); exact ⟨(c, i), fun q hq => by cases hq; exact h⟩
    · obtain ⟨c, i, h⟩ := u_known (C := RX2) (T := TX2) (N := 3) (n := 3) hts (fun w hw => zgw_tbl w (clX2.2.2.2.2.1 w hw)) (hts _ (zgw_tbl _ win_2)); exact ⟨(c, i), fun q hq => by cases hq; exact h⟩
    · obtain ⟨c, i, h⟩ := u_known (C := RX3) (T := TX3) (N := 7) (n := 7) hts (fun w hw => zgw_tbl w (clX3.2.2.2.2.1 w hw)) (hts _ (zgw_tbl _ win_3)); exact ⟨(c, i), fun q hq => by cases hq; exact h⟩
    · obtain ⟨c, i, h⟩ := u_known (C := RX4) (T := TX4) (N := 3) (n := 3) hts (fun w hw => zgw_tbl w (clX4.2.2.2.2.1 w hw)) (hts _ (zgw_tbl _ win_4)); exact ⟨(c, i), fun q hq => by cases hq; exact h⟩
    · obtain ⟨c, i, h⟩ := u_known (C := RX5) (T := TX5) (N := 10) (n := 10) hts (fun w hw => zgw_tbl w (clX5.2.2.2.2.1 w hw)) (hts _ (zgw_tbl _ win_5)); exact ⟨(c, i), fun q hq => by cases hq; exact h⟩
    · obtain ⟨c, i, h⟩ := u_known (C := RX6) (T := TX6) (N := 5) (n := 5) hts (fun w hw => zgw_tbl w (clX6.2.2.2.2.1 w hw)) (hts _ (zgw_tbl _ win_6)); exact ⟨(c, i), fun q hq => by cases hq; exact h⟩
    · obtain ⟨c, i, h⟩ := u_known (C := RX7) (T := TX7) (N := 12) (n := 12) hts (fun w hw => zgw_tbl w (clX7.2.2.2.2.1 w hw)) (hts _ (zgw_tbl _ win_7)); exact ⟨(c, i), fun q hq => by cases hq; exact h⟩
    · obtain ⟨c, i, h⟩ := u_known (C := RX8) (T := TX8) (N := 18) (n := 18) hts (fun w hw => zgw_tbl w (clX8.2.2.2.2.1 w hw)) (hts _ (zgw_tbl _ win_8)); exact ⟨(c, i), fun q hq => by cases hq; exact h⟩
    · obtain ⟨c, i, h⟩ := u_known (C := RX9) (T := TX9) (N := 15) (n := 15) hts (fun w hw => zgw_tbl w (clX9.2.2.2.2.1 w hw)) (hts _ (zgw_tbl _ win_9)); exact ⟨(c, i), fun q hq => by cases hq; exact h⟩
    · obtain ⟨c, i, h⟩ := u_known (C := RX10) (T := TX10) (N := 4) (n := 4) hts (fun w hw => zgw_tbl w (clX10.2.2.2.2.1 w hw)) (hts _ (zgw_tbl _ win_10)); exact ⟨(c, i), fun q hq => by cases hq; exact h⟩
    · obtain ⟨c, i, h⟩ := u_known (C := RX11) (T := TX11) (N := 15) (n := 15) hts (fun w hw => zgw_tbl w (clX11.2.2.2.2.1 w hw)) (hts _ (zgw_tbl _ win_11)); exact ⟨(c, i), fun q hq => by cases hq; exact h⟩
    · obtain ⟨c, i, h⟩ := u_known (C := RX12) (T := TX12) (N := 79) (n := 79) hts (fun w hw => zgw_tbl w (clX12.2.2.2.2.1 w hw)) (hts _ (zgw_tbl _ win_12)); exact ⟨(c, i), fun q hq => by cases hq; exact h⟩
  · exact ⟨(0, fun _ => 0), fun q hq => absurd (List.getElem?_eq_some_iff.mp hq).1 hk⟩
theorem st_G {s : State} {args : Array Value} (hts : ∀ w ∈ lw_tbl, w.before args s = true) (l : Launch) (b : Nat) : ∃ G : zG, G.1 = l ∧ G.2.1 = b ∧ G.2.2.2.2 = adG b ∧ zKn G s := by
  obtain ⟨tC, htC⟩ := Classical.axiomOfChoice (st_arr hts)
  obtain ⟨D, hD⟩ := Classical.axiomOfChoice (st_cls hts)
  refine ⟨(l, b, (fun k => (D k).1, fun k => (D k).2), tC, adG b), rfl, rfl, rfl, ⟨fun k q hq => hD k q hq, fun k q hq => ?_⟩, fun w hw => ?_⟩
  · rw [List.getElem?_map] at hq
    by_cases hk : k < 8
    · rw [List.getElem?_range hk] at hq
      cases hq
      exact htC k hk
    · rw [List.getElem?_eq_none (by simp; omega)] at hq
      cases hq
  · rw [List.mem_singleton.mp hw]
    exact va_Nw.of rfl (hts _ wnest)
theorem wflat : ∀ j, j < 89 → (Cond.eq (.elem (.field (.string "KnockBank$Scanner" 24) "java/lang/String" "value" "[B") (.int (Int32.ofNat j))) (.int (wby.getD j 0))) ∈ flatC (Jvm.Cond.and given_1 narrow_1) := by decide +kernel
theorem wfl_1 : (Cond.exactly (.string "KnockBank$Scanner" 24) "java/lang/String") ∈ flatC (Jvm.Cond.and given_1 narrow_1) := by decide +kernel
theorem wfl_2 : (Cond.eq (.field (.string "KnockBank$Scanner" 24) "java/lang/String" "coder" "B") (.int 0)) ∈ flatC (Jvm.Cond.and given_1 narrow_1) := by decide +kernel
theorem wfl_3 : (Cond.arrayOf (.field (.string "KnockBank$Scanner" 24) "java/lang/String" "value" "[B") .byte) ∈ flatC (Jvm.Cond.and given_1 narrow_1) := by decide +kernel
theorem wfl_4 : (Cond.eq (.length (.field (.string "KnockBank$Scanner" 24) "java/lang/String" "value" "[B")) (.int (Int32.ofNat 89))) ∈ flatC (Jvm.Cond.and given_1 narrow_1) := by decide +kernel
theorem wfl_5 : (Cond.eq (.static "java/lang/String" "COMPACT_STRINGS" "Z") (.int 1)) ∈ flatC (Jvm.Cond.and given_1 narrow_1) := by decide +kernel
theorem wfl_6 : (Cond.isRef (.static "jdk/internal/util/Preconditions" "SIOOBE_FORMATTER" "Ljava/util/function/BiFunction;")) ∈ flatC (Jvm.Cond.and given_1 narrow_1) := by decide +kernel
theorem wfl_7 : (Cond.exactly (.string "KnockBank" 121) "java/lang/String") ∈ flatC (Jvm.Cond.and given_1 narrow_1) := by decide +kernel
theorem wfl_8 : (Cond.exactly (.string "KnockBank" 155) "java/lang/String") ∈ flatC (Jvm.Cond.and given_1 narrow_1) := by decide +kernel
theorem wfl_9 : (Cond.isRef (.static Bundle.tN "UNASSIGNED_STACK" Bundle.steD)) ∈ flatC (Jvm.Cond.and given_1 narrow_1) := by decide +kernel
theorem wfl_10 : (Cond.isRef (.static Bundle.tN "SUPPRESSED_SENTINEL" Bundle.listD)) ∈ flatC (Jvm.Cond.and given_1 narrow_1) := by decide +kernel
theorem wfl_11 : (Cond.not (.castable "java/util/NoSuchElementException" "java/lang/IndexOutOfBoundsException")) ∈ flatC (Jvm.Cond.and given_1 narrow_1) := by decide +kernel
theorem wtb_1 : Cond.stringRef "KnockBank$Scanner" 24 wtx ∈ lw_tbl := by decide +kernel
theorem wtb_2 : Cond.laysStatic "java/lang/String" "COMPACT_STRINGS" "Z" ∈ lw_tbl := by decide +kernel
theorem wtb_3 : Cond.initialized "java/lang/String" ∈ lw_tbl := by decide +kernel
theorem wtb_4 : Cond.laysStatic "jdk/internal/util/Preconditions" "SIOOBE_FORMATTER" "Ljava/util/function/BiFunction;" ∈ lw_tbl := by decide +kernel
theorem wtb_5 : Cond.initialized "jdk/internal/util/Preconditions" ∈ lw_tbl := by decide +kernel
theorem wtb_6 : Cond.stringRef "KnockBank" 121 "no such RAP" ∈ lw_tbl := by decide +kernel
theorem wtb_7 : Cond.stringRef "KnockBank" 155 "no such what" ∈ lw_tbl := by decide +kernel
theorem wtb_8 : Cond.laysStatic Bundle.tN "UNASSIGNED_STACK" Bundle.steD ∈ lw_tbl := by decide +kernel
theorem wtb_9 : Cond.laysStatic Bundle.tN "SUPPRESSED_SENTINEL" Bundle.listD ∈ lw_tbl := by decide +kernel
theorem wtb_10 : Cond.initialized Bundle.tN ∈ lw_tbl := by decide +kernel
theorem wtb_11 : Cond.castable "java/lang/IndexOutOfBoundsException" "java/lang/IndexOutOfBoundsException" ∈ lw_tbl := by decide +kernel
theorem wtb_12 : Cond.castable "java/util/NoSuchElementException" "java/util/NoSuchElementException" ∈ lw_tbl := by decide +kernel
theorem wtb_13 : ∀ x ∈ eDs, Cond.declares x ∈ lw_tbl := by decide +kernel
theorem wtb_14 : ∀ w ∈ znestI, w ∈ lw_tbl ∧ w.onTables = true := by decide +kernel
theorem st_In {s : State} {args : Array Value} (hts : ∀ w ∈ lw_tbl, w.before args s = true) (hgv : (Jvm.Cond.and given_1 narrow_1).before args s = true) : zIn s.heap.size s := by
  have hf := flat_of_before _ hgv
  have hA : ∀ a : Nat, a < s.heap.size → ¬ bA s.heap.size a := fun a h z => Nat.not_le.mpr h z
  refine ⟨fun w hw => va_Nw.of (wtb_14 w hw).2 (hts w (wtb_14 w hw).1), fun C hC => ?_, ?_⟩
  · simp only [zovr, List.mem_cons, List.not_mem_nil, or_false] at hC
    rcases hC with rfl | rfl | rfl | rfl
    · exact va_AO.of (hts _ wov_0)
    · exact va_AO.of (hts _ wov_1)
    · exact va_AO.of (hts _ wov_2)
    · exact va_AO.of (hts _ wov_3)
  · obtain ⟨adK, adV, hS, hev⟩ := vk_Sof (args := args) (s := s) (N := 1) (tm := fun _ => .string "KnockBank$Scanner" 24) (len := [89]) (byt := [wby]) (A := bA s.heap.size)
      (fun i hi => by rw [show i = 0 by omega]; decide) (fun i hi => hf _ wfl_1) (fun i hi => hf _ wfl_2) (fun i hi => hf _ wfl_3) (fun i hi => by rw [show i = 0 by omega]; exact hf _ wfl_4)
      (fun i hi j hj => by have e : i = 0 := by omega
                           subst e
                           exact hf _ (wflat j hj)) (fun i j hi hj hne => absurd (show i = j by omega) hne) hA
    obtain ⟨s1, s2, s3, s4⟩ := hS.1 0 (by decide)
    exact ⟨adK 0, adV 0, vk_R.of (hts _ wtb_1) (hev 0 (by decide)), s1, s2, s3, s4, va_Zof (hts _ wtb_2) (hts _ wtb_3) (va_eqt (hf _ wfl_5)) hA, va_Zqof (hts _ wtb_4) (hts _ wtb_5) (hf _ wfl_6) hA⟩
theorem st_Ex {s : State} {args : Array Value} (hts : ∀ w ∈ lw_tbl, w.before args s = true) (hgv : (Jvm.Cond.and given_1 narrow_1).before args s = true) {G : zG} (hG : G.2.1 = s.heap.size) : zEx G s s.heap := by
  have hf := flat_of_before _ hgv
  have hA : ∀ a : Nat, a < s.heap.size → ¬ zA G a := fun a h z => by have z : G.2.1 ≤ a := z; omega
  have str : ∀ (k : Nat) (tx : String), (Cond.exactly (.string "KnockBank" k) "java/lang/String").before args s = true → (Cond.stringRef "KnockBank" k tx).before args s = true → ∃ sa, vk_R RX11 k tx sa s := fun k tx h1 h2 => by
    obtain ⟨a, c, cA, kA, q1, -⟩ := Cond.exactly_spec (args := args) (first := s) (o := none) (s := s) (idx := []) (t := .string "KnockBank" k) (cls := "java/lang/String") h1
    exact ⟨a, vk_R.of h2 q1⟩
  exact ⟨vx_Zqof (hts _ wtb_8) (hts _ wtb_10) (hf _ wfl_9) hA, vx_Zqof (hts _ wtb_9) (hts _ wtb_10) (hf _ wfl_10) hA, str _ _ (hf _ wfl_7) (hts _ wtb_6), str _ _ (hf _ wfl_8) (hts _ wtb_7), va_Nc.of (hf _ wfl_11), zCs.of (hts _ wtb_11), zCs.of (hts _ wtb_12), fun x hx => va_Nw.of rfl (hts _ (wtb_13 x hx))⟩
