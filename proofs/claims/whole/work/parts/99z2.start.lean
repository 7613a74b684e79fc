theorem sw_1 : Cond.classLink RL 8 RX11 ∈ zgw := by decide +kernel
theorem sw_2 : Cond.instantiable RX11 15 ∈ zgw := by decide +kernel
theorem sw_3 : Cond.initialized RX11 ∈ zgw := by decide +kernel
theorem sw_4 : Cond.instanceMethod yX11_init ∈ zgw := by decide +kernel
theorem sw_5 : Cond.code yX11_init cX11_init 1 none ∈ zgw := by decide +kernel
theorem sw_6 : Cond.methodLink RL 17 yX11_init ∈ zgw := by decide +kernel
theorem sw_7 : Cond.classLink RL 18 RX12 ∈ zgw := by decide +kernel
theorem sw_8 : Cond.instantiable RX12 79 ∈ zgw := by decide +kernel
theorem sw_9 : Cond.initialized RX12 ∈ zgw := by decide +kernel
theorem sw_10 : Cond.instanceMethod yX12_init ∈ zgw := by decide +kernel
theorem sw_11 : Cond.code yX12_init cX12_init 1 none ∈ zgw := zgw_6 85 rfl rfl
theorem sw_12 : Cond.methodLink RL 20 yX12_init ∈ zgw := by decide +kernel
theorem sw_13 : Cond.arrayClass .long ∈ zgw := by decide +kernel
theorem l_new0 {G : zG} {X : zX} {Y : zY} {Q : State → Prop} {pc kc ks ik ci N : Nat} {C : String} {T : u_T} {ty : Nat → FieldType} {fs0 : List Value} {H : Heap} {locs : List Loc} {arr : Array Slot} {rest : List Value} (hx : X.1.tables.exec = Jvm.exec) (hb : X.2.2.2.2.2.2.2.code = Y.2.1) (hown : X.2.2.1.vm.findClass Y.1 = some X.2.2.2.1.cls) (hts : ∀ w ∈ zgw, w.before X.2.2.2.2.1 X.2.2.1 = true) (hK : zKn G X.2.2.1) (hc : zCl ci C T N ty) (hfs : ∀ j, j < N → defaultValue (ty j) = vp_V fs0 j) (hw : Cond.classLink Y.1 ik C ∈ zgw ∧ Cond.instantiable C N ∈ zgw ∧ Cond.initialized C ∈ zgw) (hcc : kc + 1 ≤ Y.2.2.2.2.cells) (hss : ks + N ≤ Y.2.2.2.2.slots) (hd : decode Y.2.1 pc = .ok (.new ik, 3))
    (kk : ∀ H1 : Heap, H1.size = H.size + 1 → (∀ q : Nat, q < H.size → H1[q]? = H[q]?) → va_at G.2.2.1 classes (H.size, .inr (ci, fs0)) H1 → zWL G X Y (kc + 1) (ks + N) H1 locs Q (zFr X (pc + 3) arr (.ref H.size :: rest))) : zWL G X Y kc ks H locs Q (zFr X pc arr rest) := by
  obtain ⟨c1, c2, c3, c4, c5, c6, c7⟩ := hc
  have hKn := hK.1.1 ci _ c4
  refine W.newcK hx hb hown (hts _ hw.1) (hts _ hw.2.1) (hts _ hw.2.2) (g := zFr X pc arr rest) rfl hd hcc hss hKn.2.1 rfl fun H1 kC hkC e1 z1 o1 => ?_
  exact kk H1 z1 o1 ⟨_, c4, (u_born ty hts c5 hKn hkC e1 c6).to hfs⟩
def cK (k : Nat) : Bool := Nat.ble k 11 || (Nat.ble 13 k && Nat.ble k 50)
def mgE {T : Type} (f g : Nat → T) : Nat → T := fun k => bif cK k then f k else g k
theorem cK_A {k i : Nat} (h : i < cnA k) : cK k = true := by
  have := cnA_lt h
  unfold cK
  simp only [Bool.or_eq_true, Bool.and_eq_true, Nat.ble_eq]
  omega
theorem cK_B {k i : Nat} (h : i < cnB k) : cK k = false := by
  have := cnB_lt h
  cases e : cK k with
  | false => rfl
  | true =>
    unfold cK at e
    simp only [Bool.or_eq_true, Bool.and_eq_true, Nat.ble_eq] at e
    omega
theorem zcell_eq {G G' : zG} {M M' : zM} {k i : Nat} (h1 : G.2.2.2.1 = G'.2.2.2.1) (h2 : G.2.2.2.2 = G'.2.2.2.2) (e1 : M.1 k = M'.1 k) (e2 : M.2.1 k = M'.2.1 k) (e3 : M.2.2 k = M'.2.2 k) : zcell G M k i = zcell G' M' k i := by
  unfold zcell zfv
  rw [h1, h2, e1, e2, e3]
set_option maxHeartbeats 4000000 in
set_option maxRecDepth 100000 in
theorem whole_start {p : Program} {e : Env} {s : State} {m : MethodId} {below : List Frame} {meth : Method} {c : Code} (l : Launch) (hflags : l.flags = flags0) {b L : Nat} {xs : Nat → Int32} (hL : L ≤ 3072) (C0 : lw_At p s m meth c b L xs) : W p l e room_1 s m #[Value.ref b] below meth c s.heap [] 0 0 (lw_Z below #[Value.ref b] s) (entryFrame m ([Value.ref b] : List Value).toArray 7) := by
  obtain ⟨hx, hb, hr, hml, hown, hts, hX, hbl, hlocks, hgv⟩ := id C0
  obtain ⟨G, hG1, hG2, hG3, hKn⟩ := st_G hts l s.heap.size
  have hIn := st_In hts hgv
  have hEx := st_Ex hts hgv hG2
  subst hG1
  have hfl : G.1.stackTraces = false := by
    unfold Launch.stackTraces
    rw [hflags]
    decide +kernel
  have htz : ∀ w ∈ zgw, w.before #[Value.ref b] s = true := fun w hw => hts w (zgw_tbl w hw)
  have hl := lv_entry ([.ref b]) (n := 7) (Nat.le_of_ble_eq_true rfl)
  rw [lg_entry_eq]
  generalize (lg_sl ([.ref b]) ++ List.replicate (7 - (lg_sl ([.ref b])).length) Slot.unset).toArray = ls at hl ⊢
  have hl : lv_has ls 7 [(0, .ref b)] := hl
  obtain ⟨X, eX⟩ : ∃ X : zX, X = (p, e, s, m, #[Value.ref b], below, meth, c) := ⟨_, rfl⟩
  have goal : zWL G X YL 0 0 s.heap [] (lw_Z below #[Value.ref b] s) (zFr X 0 ls []) := by
    have hx' : X.1.tables.exec = Jvm.exec := by rw [eX]; exact hx
    have hb' : X.2.2.2.2.2.2.2.code = YL.2.1 := by rw [eX]; exact hb
    have hml' : X.2.2.2.2.2.2.2.maxLocals = YL.2.2.1 := by rw [eX]; exact hml
    have hown' : X.2.2.1.vm.findClass YL.1 = some X.2.2.2.1.cls := by rw [eX]; exact hown
    have htz' : ∀ w ∈ zgw, w.before X.2.2.2.2.1 X.2.2.1 = true := by rw [eX]; exact htz
    have hs' : X.2.2.1 = s := by rw [eX]
    have hKn' : zKn G X.2.2.1 := by rw [hs']; exact hKn
    have hIn' : zIn s.heap.size X.2.2.1 := by rw [hs']; exact hIn
    obtain ⟨B, eB⟩ : ∃ B, B = s.heap.size := ⟨_, rfl⟩
    have hsz0 : X.2.2.1.heap.size = B := by rw [hs', eB]
    rw [← eB] at hIn' hG2 hG3
    have hS0 : va_S (bA B) X.2.2.1.heap s.heap [] := by rw [hs']; exact va_S.rf
    refine l_new0 (pc := 0) (ik := 8) (fs0 := [.null, .null, .null, .null, .null, .null, .null, .null, .null, .null, .null, .null, .null, .int 0, .int 0]) hx' hb' hown' htz' hKn' clX11 dftX11 ⟨sw_1, sw_2, sw_3⟩ (by decide) (by decide) (by decide +kernel) (fun H1 z1 o1 a1 => ?_)
    rw [← eB] at z1 o1 a1 ⊢
    have hS1 : va_S (bA B) X.2.2.1.heap H1 [] := ⟨by omega, fun q h1 h2 => by rw [hs'] at h1 ⊢; exact o1 q (by omega), fun q hq => by cases hq⟩
    refine lv_dup (pc := 3) hx' hb' (show decode cL_law 3 = .ok (.dup, 1) by decide +kernel) rfl ?_
    have hG11 : GoodIn zgw (zws yX11_init YX11_init) := zgw_in (fun w h => by
      rcases List.mem_cons.mp h with rfl | h
      · exact sw_5
      · exact h)
    have hPnH1 : va_P G.2.2.1 classes (bw B [e0X11]) H1 := fun k q hk => by
      rcases k with _ | k
      · cases hk; exact a1
      · cases hk
    have run := va_runI (e := X.2.1) (R := room_1) (below := X.2.2.2.2.2.1) (meth := X.2.2.2.2.2.2.1) (locs := ([] : List Loc)) (H := H1) (bytes := cX11_init) (maxL := 1) (As := []) (n := 0) (rest := [.ref B]) (b := B) (g := zFr X 4 ls [.ref B, .ref B]) (cells := 0 + 1) (slots := 0 + 15) ⟨hx', hb', hml', hown', htz'⟩ (icX11 (G := G) B) (cwI 0 htz' hG11 rfl rfl rfl (htz' _ sw_3) (htz' _ sw_6) (htz' _ sw_4) rfl mdX11_init ⟨by decide, by decide⟩) ⟨iPre_blind, fun U hU hW => ⟨rfl, by rw [hU]; exact z1, by rw [hU]; exact hPnH1, hKn'.warm hW, zIn.at hW hU hS1 (Nat.le_refl _) hIn'⟩⟩ rfl rfl hl.1 rfl (Nat.le_of_ble_eq_true rfl) (show decode cL_law 4 = .ok (.invokespecial 17, 3) by decide +kernel) ⟨by decide, by decide⟩
    refine va_callv run hS1 (fun q _ h => h) (fun q h => h) (fun M1 t H2 locs2 ht hal hRC hB hsz2 hq2 hS2 => ?_)
    have hR1 : yRep cnA (gA G B) M1 H2 := by rw [← ht]; exact hB
    clear hB ht run
    refine lv_astore_n (pc := 7) (lv' := [(1, .ref B), (0, .ref b)]) hx' hb' (show decode cL_law 7 = .ok (.astore_n 1, 1) by decide +kernel) rfl hl (by decide) rfl (fun ls hl => ?_)
    refine l_size (fun hz => ?_)
    have hz : H2.size ≤ B + 155 := by rw [hsz0] at hz; exact hz
    have hlo : B + 154 < H2.size := (hR1 17 5 (by decide)).lt
    have hH2 : H2.size = B + 155 := by omega
    refine l_new0 (pc := 8) (ik := 18) (fs0 := [.null, .int 0, .int 0, .null, .int 0, .int 0, .int 0, .int 0, .int 0, .int 0, .int 0, .int 0, .int 0, .int 0, .int 0, .int 0, .int 0, .int 0, .int 0, .int 0, .null, .null, .null, .null, .null, .null, .null, .null, .null, .null, .null, .null, .null, .null, .null, .null, .null, .null, .null, .null, .null, .int 0, .int 0, .int 0, .int 0, .int 0, .int 0, .null, .null, .int 0, .null, .null, .null, .null, .null, .null, .null, .null, .null, .null, .null, .long 0, .null, .int 0, .int 0, .int 0, .int 0, .int 0, .null, .int 0, .int 0, .null, .null, .int 0, .null, .int 0, .null, .null, .long 0]) hx' hb' hown' htz' hKn' clX12 dftX12 ⟨sw_7, sw_8, sw_9⟩ (by decide) (by decide) (by decide +kernel) (fun H3 z3 o3 a3 => ?_)
    rw [hH2] at z3 o3 a3 ⊢
    have hS3 : va_S (bA B) X.2.2.1.heap H3 locs2 := ⟨by omega, fun q h1 h2 => (o3 q (by omega)).trans (hS2.2.1 q h1 h2), hS2.2.2⟩
    have hR3 : yRep cnA (gA G B) M1 H3 := fun k i hi => (hR1 k i hi).kept (o3 _ (by rw [← hH2]; exact (hR1 k i hi).lt))
    refine lv_dup (pc := 11) hx' hb' (show decode cL_law 11 = .ok (.dup, 1) by decide +kernel) rfl ?_
    have hG12 : GoodIn zgw (zws yX12_init YX12_init) := zgw_in (fun w h => by
      rcases List.mem_cons.mp h with rfl | h
      · exact sw_11
      · exact h)
    have hPnH3 : va_P G.2.2.1 classes (bw (B + 155) [e0X12]) H3 := fun k q hk => by
      rcases k with _ | k
      · cases hk; exact a3
      · cases hk
    have run := va_runI (e := X.2.1) (R := room_1) (below := X.2.2.2.2.2.1) (meth := X.2.2.2.2.2.2.1) (locs := locs2) (H := H3) (bytes := cX12_init) (maxL := 1) (As := []) (n := 0) (rest := [.ref (B + 155)]) (b := B + 155) (g := zFr X 12 ls [.ref (B + 155), .ref (B + 155)]) (cells := 0 + 1 + 154 + 1) (slots := 0 + 15 + 6641 + 79) ⟨hx', hb', hml', hown', htz'⟩ (icX12 (G := G) B) (cwI 0 htz' hG12 rfl rfl rfl (htz' _ sw_9) (htz' _ sw_12) (htz' _ sw_10) rfl mdX12_init ⟨by decide, by decide⟩) ⟨iPre_blind, fun U hU hW => ⟨rfl, by rw [hU]; exact z3, by rw [hU]; exact hPnH3, hKn'.warm hW, zIn.at hW hU hS3 (by omega) hIn'⟩⟩ rfl rfl hl.1 rfl (Nat.le_of_ble_eq_true rfl) (show decode cL_law 12 = .ok (.invokespecial 20, 3) by decide +kernel) ⟨by decide, by decide⟩
    refine va_callv run hS3 (fun q _ h => by have h : B + 155 ≤ q := h; show B ≤ q; omega) (fun q h => by have h : B + 155 ≤ q := h; show B ≤ q; omega) (fun M2 t H4 locs4 ht hal4 hRR hB hsz4 hq4 hS4 => ?_)
    have hR4 : yRep cnB (gB G B) M2 H4 := by rw [← ht]; exact hB
    clear hB ht run
    have hR5 : yRep cnA (gA G B) M1 H4 := fun k i hi => (hR3 k i hi).kept (hq4 _ (hR3 k i hi).lt (fun z => by
      have z : B + 155 ≤ B + offG k i := z
      have := (hR1 k i hi).lt
      have h9 : B + offG k i < H2.size := this
      omega))
    refine lv_astore_n (pc := 15) (lv' := [(2, .ref (B + 155)), (1, .ref B), (0, .ref b)]) hx' hb' (show decode cL_law 15 = .ok (.astore_n 2, 1) by decide +kernel) rfl hl (by decide) rfl (fun ls hl => ?_)
    refine lv_iconst (pc := 16) (v := 1) hx' hb' (show decode cL_law 16 = .ok (.iconst 1, 1) by decide +kernel) (by decide) ?_
    refine l_size (fun hz => ?_)
    have hz : H4.size ≤ B + 199 := by rw [hsz0] at hz; exact hz
    have hlo : B + 198 < H4.size := (hR4 93 0 (by decide)).lt
    have hH4 : H4.size = B + 199 := by omega
    refine va_newaK (g := zFr X 17 ls [.int 1]) (atype := .long) hx' hb' (htz' _ sw_13) rfl (show decode cL_law 17 = .ok (.newarray .long, 2) by decide +kernel) (N := 1) rfl (by decide) (by decide) (by decide) (by decide) (by decide) hH4 (fun H5 cA e5 z5 o5 hAr hNm => ?_)
    have ecA : cA = G.2.2.2.1 3 := by
      have h2 : X.2.2.1.vm.findClass ("[" ++ (FieldType.long).toString) = some (G.2.2.2.1 3) := (hKn'.1.2 3 _ (hKn'.ty (by decide))).2
      exact Option.some.inj (hNm.symm.trans h2)
    subst ecA
    have hS5 : va_S (bA B) X.2.2.1.heap H5 locs4 := ⟨by omega, fun q h1 h2 => (o5 q (by omega)).trans (hS4.2.1 q h1 h2), hS4.2.2⟩
    refine lv_astore_n (pc := 19) (lv' := [(3, .ref (B + 199)), (2, .ref (B + 155)), (1, .ref B), (0, .ref b)]) hx' hb' (show decode cL_law 19 = .ok (.astore_n 3, 1) by decide +kernel) rfl hl (by decide) rfl (fun ls hl => ?_)
    refine lv_iconst (pc := 20) (v := nI 0) hx' hb' (show decode cL_law 20 = .ok (.iconst 0, 1) by decide +kernel) (by decide) ?_
    refine lv_istore (pc := 21) (lv' := [(4, .int (nI 0)), (3, .ref (B + 199)), (2, .ref (B + 155)), (1, .ref B), (0, .ref b)]) hx' hb' (show decode cL_law 21 = .ok (.istore 4, 2) by decide +kernel) hl (by decide) rfl (fun ls hl => ?_)
    have hI : zInj G := ⟨fun k i k' i' h h' e => adG_inj h h' (by rw [hG3] at e; exact e), fun k i _ => by rw [hG2, hG3]; exact Nat.le_add_right B _⟩
    have hC : zC G X YL := ⟨hx', hb', hml', hown', htz', by rw [eX]; exact hr, by rw [eX]; exact hlocks, hKn', hI⟩
    have hM : zRep G (mgE M1.1 M2.1, mgE M1.2.1 (fun k => if k = 94 then fun _ _ => 0 else M2.2.1 k), mgE M1.2.2 M2.2.2) H5 := by
      intro k i hi
      have hk95 : k < 95 := Classical.byContradiction (fun z => by rw [zcnt_out k z] at hi; omega)
      by_cases h94 : k = 94
      · subst h94
        have hi : i < 1 := hi
        have e : i = 0 := by omega
        subst e
        rw [hG3]
        show H5[B + 199]? = some _
        rw [e5]
        rfl
      · by_cases hcA : k ≤ 11 ∨ (13 ≤ k ∧ k ≤ 50)
        · have hi2 : i < cnA k := by unfold cnA; rw [if_pos hcA]; exact hi
          have e : cK k = true := cK_A hi2
          have ec : zcell G (mgE M1.1 M2.1, mgE M1.2.1 (fun k => if k = 94 then fun _ _ => 0 else M2.2.1 k), mgE M1.2.2 M2.2.2) k i = zcell (gA G B) M1 k i := zcell_eq rfl hG3 (by dsimp only; unfold mgE; rw [e]; rfl) (by dsimp only; unfold mgE; rw [e]; rfl) (by dsimp only; unfold mgE; rw [e]; rfl)
          rw [ec, hG3]
          exact (hR5 k i hi2).kept (o5 _ (by rw [← hH4]; exact (hR5 k i hi2).lt))
        · have hcB : k = 12 ∨ (51 ≤ k ∧ k ≤ 93) := by omega
          have hi2 : i < cnB k := by unfold cnB; rw [if_pos hcB]; exact hi
          have e : cK k = false := cK_B hi2
          have ec : zcell G (mgE M1.1 M2.1, mgE M1.2.1 (fun k => if k = 94 then fun _ _ => 0 else M2.2.1 k), mgE M1.2.2 M2.2.2) k i = zcell (gB G B) M2 k i := zcell_eq rfl hG3 (by dsimp only; unfold mgE; rw [e]; rfl) (by dsimp only; unfold mgE; rw [e]; show (if k = 94 then _ else _) = _; rw [if_neg h94]) (by dsimp only; unfold mgE; rw [e]; rfl)
          rw [ec, hG3]
          exact (hR4 k i hi2).kept (o5 _ (by rw [← hH4]; exact (hR4 k i hi2).lt))
    have hJ : JJ (newA T00) (mgE M1.1 M2.1, mgE M1.2.1 (fun k => if k = 94 then fun _ _ => 0 else M2.2.1 k), mgE M1.2.2 M2.2.2) := by
      refine ⟨?_, ?_, W_new QW_0⟩
      · have h1 : RC (newA T00) (mgE M1.1 M2.1) M1.2.2 := hRC.y (fun a b c h1 h2 => by
          have e : cK a = true := by unfold cK; simp only [Bool.or_eq_true, Bool.and_eq_true, Nat.ble_eq]; omega
          show mgE M1.1 M2.1 a b c = _
          unfold mgE
          rw [e]; rfl)
        obtain ⟨t, ⟨g1, g2, g3, g4⟩, g5, g6, g7, g8⟩ := h1
        exact ⟨t, ⟨g1, g2, g3, g4⟩, g5, g6, g7, g8⟩
      · have h1 : RR (newA T00) (mgE M1.1 M2.1) M2.2.1 := hRR.x ⟨fun a b c h => by
          have e : cK a = false := by
            cases e : cK a with
            | false => rfl
            | true =>
              unfold cK at e
              simp only [Bool.or_eq_true, Bool.and_eq_true, Nat.ble_eq] at e
              omega
          show mgE M1.1 M2.1 a b c = _
          unfold mgE
          rw [e]; rfl, fun _ _ _ _ => rfl⟩
        exact h1.l (fun c => rfl)
    have hbA : ¬ zA G b := fun z => by
      have z : G.2.1 ≤ b := z
      rw [hG2, eB] at z
      exact absurd hbl (Nat.not_lt.mpr z)
    have hSZ : va_S (zA G) X.2.2.1.heap H5 locs4 := by
      have e : zA G = bA B := by funext q; show (G.2.1 ≤ q) = (B ≤ q); rw [hG2]
      rw [e]; exact hS5
    refine law_loop hC hfl (by rw [hs']; exact hEx) (by rw [hs']; exact hX) (by rw [hs']; exact hbl) hbA hL (fun kc ks H locs arr hk hs hS => ?_) 512 0 _ _ _ _ _ _ ls (by decide) (by omega) (by decide) (by decide) (by rw [hG3]; exact lv_sub hl [4, 3, 2, 1, 0] rfl) hJ hM hSZ
    refine lv_iconst (pc := 1660) (v := 1) hx' hb' (show decode cL_law 1660 = .ok (.iconst 1, 1) by decide +kernel) (by decide) ?_
    subst eX
    refine va_forget (fun q hq => by
      have z : G.2.1 ≤ q.base := hS.2.2 q hq
      rw [hG2, eB] at z
      exact z) ?_
    refine W.widen hk hs ?_
    exact lw_ret hx hb hr hlocks (show decode cL_law 1661 = .ok (.ireturn, 1) by decide +kernel)
  subst eX
  exact goal
