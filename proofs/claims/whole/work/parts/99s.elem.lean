-- a row of references is filled, one new object a round
section BE
variable {G : zG} {X : zX} {Y : zY} {Q : State → Prop} {pc kc ks a : Nat} {H : Heap} {locs : List Loc} {arr : Array Slot} {es : List va_E}
abbrev rfs (f : Nat → Option Nat) : (Nat → Int32) ⊕ (Nat → Int64) ⊕ (Nat → UInt32) ⊕ (Nat → UInt64) ⊕ (Nat → Option Nat) := .inr (.inr (.inr (.inr f)))
theorem i_cmp (h : iC G X Y a) {i M w tgt : Nat} {off : Int} (hi : i < 1000) (hM : M < 1000) (hl : lv_has arr 2 [(0, .ref a), (1, .int (nI i))]) (d0 : decode Y.2.1 pc = .ok (.iload_n 1, 1)) (d1 : (∃ j, decode Y.2.1 (pc + 1) = .ok (.iconst j, w) ∧ w = 1 ∧ Int32.ofInt j = nI M) ∨ ∃ j, decode Y.2.1 (pc + 1) = .ok (.bipush j, w) ∧ w = 2 ∧ (Int8.ofInt j).toInt32 = nI M) (d2 : decode Y.2.1 (pc + 1 + w) = .ok (.if_icmp .ge off, 3)) (ho : ((pc + 1 + w : Nat) : Int) + off = (tgt : Int))
    (k1 : M ≤ i → zWL G X Y kc ks H locs Q (zFr X tgt arr [])) (k2 : i < M → zWL G X Y kc ks H locs Q (zFr X (pc + 1 + w + 3) arr [])) : zWL G X Y kc ks H locs Q (zFr X pc arr []) := by
  obtain ⟨hx, hb, -⟩ := id h
  refine lv_iload_n hx hb d0 rfl (lv_at hl 1 rfl) ?_
  have k3 : zWL G X Y kc ks H locs Q (zFr X (pc + 1 + w) arr [.int (nI M), .int (nI i)]) :=
    lv_icmp_ge (tgt := tgt) hx hb d2 ho (fun c => k1 ((n_le (by omega) (by omega)).mp c)) (fun c => k2 (Nat.not_le.mp (fun z => c ((n_le (by omega) (by omega)).mpr z))))
  rcases d1 with ⟨j, d, rfl, e⟩ | ⟨j, d, rfl, e⟩
  · exact lv_iconst hx hb d e k3
  · exact lv_bipush hx hb d e k3
theorem i_elem (h : iC G X Y a) {ci k idx j t M : Nat} {T : u_T} {N : Nat} {ty : Nat → FieldType} (hc : zCl ci Y.1 T N ty) {fs : List Value} (hk : k < N) (hlink : Cond.fieldLink Y.1 idx (T k).1 (T k).2.1 (T k).2.2.1 ∈ zgw) (hfk : fs[k]? = some (.ref (a + j))) {f : Nat → Option Nat} (ht : t < 8) (hj : (.inr (ci, fs) :: es)[j]? = some (.inl (G.2.2.2.1 t, M, rfs f)))
    {C : String} {T2 : u_T} {N2 c2 ik ic : Nat} {ty2 : Nat → FieldType} {fs0 : List Value} {y : MethodName} {Y' : zY} {L : Nat → List va_E} (hC : zty t = .object C) (hm : iMet G y Y' (.inr (c2, fs0)) L) (hc2 : zCl c2 C T2 N2 ty2) (hyC : y.cls = C) (hyi : y.name = "<init>") (hmd : zMd y 0) (hr2 : Y'.2.2.2.1 = none)
    (hrm : Y'.2.2.2.2.frames + 1 ≤ Y.2.2.2.2.frames ∧ 8 + (Y'.2.2.1 + 11) + Y'.2.2.2.2.locals ≤ Y.2.2.2.2.locals) (hfs : ∀ j, j < N2 → defaultValue (ty2 j) = vp_V fs0 j)
    (hw : Cond.classLink Y.1 ik C ∈ zgw ∧ Cond.instantiable C N2 ∈ zgw ∧ Cond.initialized C ∈ zgw ∧ Cond.instanceMethod y ∈ zgw ∧ Cond.code y Y'.2.1 Y'.2.2.1 none ∈ zgw) (hlk : Cond.methodLink Y.1 ic y ∈ zgw ∨ Cond.methodLinkNest Y.1 ic y "KnockBank" ∈ znestI)
    (hcc : kc + 1 + Y'.2.2.2.2.cells ≤ Y.2.2.2.2.cells) (hss : ks + N2 + Y'.2.2.2.2.slots ≤ Y.2.2.2.2.slots) {vs : List Value} (hL0 : (L (a + (es.length + 1)))[0]? = some (.inr (c2, vs))) (hnL : 2 = Y.2.2.1)
    {i h0 : Nat} {off : Int} (hi : i < M) (hM : M < 1000) (hl : lv_has arr 2 [(0, .ref a), (1, .int (nI i))])
    (d0 : decode Y.2.1 pc = .ok (.aload_n 0, 1)) (d1 : decode Y.2.1 (pc + 1) = .ok (.getfield idx, 3)) (d2 : decode Y.2.1 (pc + 4) = .ok (.iload_n 1, 1)) (d3 : decode Y.2.1 (pc + 5) = .ok (.new ik, 3)) (d4 : decode Y.2.1 (pc + 8) = .ok (.dup, 1)) (d5 : decode Y.2.1 (pc + 9) = .ok (.invokespecial ic, 3)) (d6 : decode Y.2.1 (pc + 12) = .ok (.aastore, 1)) (d7 : decode Y.2.1 (pc + 13) = .ok (.iinc 1 1, 3)) (d8 : decode Y.2.1 (pc + 16) = .ok (.goto off, 3)) (ho : ((pc + 16 : Nat) : Int) + off = (h0 : Int))
    (hkc : kc = es.length) (hS : bS G X a (.inr (ci, fs) :: es) H locs)
    (kk : ∀ H1 locs1 arr1, bS G X a (((.inr (ci, fs) :: es) ++ L (a + (es.length + 1))).set j (.inl (G.2.2.2.1 t, M, rfs (va_up f i (some (a + (es.length + 1))))))) H1 locs1 → lv_has arr1 2 [(0, .ref a), (1, .int (nI (i + 1)))] → zWL G X Y (kc + 1 + Y'.2.2.2.2.cells) (ks + N2 + Y'.2.2.2.2.slots) H1 locs1 Q (zFr X h0 arr1 [])) : zWL G X Y kc ks H locs Q (zFr X pc arr []) := by
  obtain ⟨hx, hb, hml, hown, hts, hr, hlk0, hK, hI, hin, hsz⟩ := id h
  obtain ⟨c1, c2e, c3, c4, c5, c6, c7⟩ := hc
  refine lv_aload_n hx hb d0 rfl (lv_at hl 0 rfl) ?_
  refine va_get hx hb hts c5 hown hK.1 hS.1 0 (he := rfl) c4 k hk (hts _ hlink) (fun _ h9 => h9) hfk d1 ?_
  refine lv_iload_n hx hb d2 rfl (lv_at hl 1 rfl) ?_
  refine i_new (pc := pc + 5) h hm hc2 hyC hyi hmd hr2 hrm hfs hw hlk hcc hss (Nat.le_of_ble_eq_true rfl) hl hnL d3 d4 d5 (by rw [hkc]; rfl) hS (fun H1 locs1 hS1 => ?_)
  have hjl : j < (.inr (ci, fs) :: es : List va_E).length := (List.getElem?_eq_some_iff.mp hj).1
  have e1 : (bw a ((.inr (ci, fs) :: es) ++ L (a + (es.length + 1))))[j]? = some (a + j, .inl (G.2.2.2.1 t, M, rfs f)) := bw_some (by rw [List.getElem?_append_left hjl]; exact hj)
  have e2 : (bw a ((.inr (ci, fs) :: es) ++ L (a + (es.length + 1))))[es.length + 1]? = some (a + (es.length + 1), .inr (c2, vs)) := bw_some (by
    rw [List.getElem?_append_right (by simp)]
    simpa using hL0)
  have e3 : ((List.range 8).map fun j => (G.2.2.2.1 j, zty j))[t]? = some (G.2.2.2.1 t, .object C) := by rw [hK.ty ht, hC]
  refine va_astq hx hb hK.1 hS1.1 (bw_D a _) hS1.2 j t (es.length + 1) c2 (r := (C, T2, N2)) e1 e3 e2 hc2.2.2.2.1 (vp_in_nI hi (by omega)) d6 (fun H2 locs2 hP2 hD2 hS2 => ?_)
  rw [n_cl (by omega), bw_set] at hP2
  refine lv_iinc (v := nI (i + 1)) (lv' := [(1, .int (nI (i + 1))), (0, .ref a)]) hx hb d7 hl (k := 1) rfl (by rw [show Int32.ofInt 1 = nI 1 from rfl, n_add]) (by decide) rfl (fun arr1 hl1 => ?_)
  refine lv_goto (pc := pc + 16) (tgt := h0) hx hb d8 ho ?_
  exact kk H2 locs2 arr1 ⟨hP2, hS2⟩ (lv_sub hl1 [1, 0] rfl)
def blk (L : Nat → List va_E) (b s : Nat) : Nat → List va_E
  | 0 => []
  | n + 1 => blk L b s n ++ L (b + s * n)
def fF (b s n : Nat) : Nat → Option Nat := fun q => if q < n then some (b + s * q) else none
theorem blk_len {L : Nat → List va_E} {b s : Nat} (hL : ∀ x, (L x).length = s) : ∀ n, (blk L b s n).length = s * n := by
  intro n
  induction n with
  | zero => rfl
  | succ n ih =>
    show (blk L b s n ++ L (b + s * n)).length = s * (n + 1)
    rw [List.length_append, ih, hL, Nat.mul_succ]
theorem fF_up (b s n : Nat) : va_up (fF b s n) n (some (b + s * n)) = fF b s (n + 1) := by
  funext q
  unfold va_up fF
  by_cases h : q = n
  · subst h; simp
  · rw [if_neg h]
    by_cases h2 : q < n
    · rw [if_pos h2, if_pos (by omega)]
    · rw [if_neg h2, if_neg (by omega)]
theorem set_app {es fs : List va_E} {j : Nat} {x y : va_E} (h : j < es.length) : ((es.set j x) ++ fs).set j y = (es ++ fs).set j y := by
  rw [List.set_append_left _ _ (by rw [List.length_set]; exact h), List.set_set, List.set_append_left _ _ h]
theorem i_loop (h : iC G X Y a) {ci k idx j t M : Nat} {T : u_T} {N : Nat} {ty : Nat → FieldType} (hc : zCl ci Y.1 T N ty) {fs : List Value} (hk : k < N) (hlink : Cond.fieldLink Y.1 idx (T k).1 (T k).2.1 (T k).2.2.1 ∈ zgw) (hfk : fs[k]? = some (.ref (a + (j + 1)))) (ht : t < 8)
    {C : String} {T2 : u_T} {N2 c2 ik ic : Nat} {ty2 : Nat → FieldType} {fs0 : List Value} {y : MethodName} {Y' : zY} {L : Nat → List va_E} (hC : zty t = .object C) (hm : iMet G y Y' (.inr (c2, fs0)) L) (hc2 : zCl c2 C T2 N2 ty2) (hyC : y.cls = C) (hyi : y.name = "<init>") (hmd : zMd y 0) (hr2 : Y'.2.2.2.1 = none)
    (hrm : Y'.2.2.2.2.frames + 1 ≤ Y.2.2.2.2.frames ∧ 8 + (Y'.2.2.1 + 11) + Y'.2.2.2.2.locals ≤ Y.2.2.2.2.locals) (hfs : ∀ j, j < N2 → defaultValue (ty2 j) = vp_V fs0 j)
    (hw : Cond.classLink Y.1 ik C ∈ zgw ∧ Cond.instantiable C N2 ∈ zgw ∧ Cond.initialized C ∈ zgw ∧ Cond.instanceMethod y ∈ zgw ∧ Cond.code y Y'.2.1 Y'.2.2.1 none ∈ zgw) (hlk : Cond.methodLink Y.1 ic y ∈ zgw ∨ Cond.methodLinkNest Y.1 ic y "KnockBank" ∈ znestI)
    {s : Nat} (hLs : ∀ x, (L x).length = s) (hs9 : s = 1 + Y'.2.2.2.2.cells) {vs : Nat → List Value} (hL0 : ∀ x, (L x)[0]? = some (.inr (c2, vs x))) (hnL : 2 = Y.2.2.1) {h0 w tgt : Nat} {off off2 : Int} (hM : M < 1000)
    (d0 : decode Y.2.1 h0 = .ok (.iload_n 1, 1)) (d1 : (∃ j, decode Y.2.1 (h0 + 1) = .ok (.iconst j, w) ∧ w = 1 ∧ Int32.ofInt j = nI M) ∨ ∃ j, decode Y.2.1 (h0 + 1) = .ok (.bipush j, w) ∧ w = 2 ∧ (Int8.ofInt j).toInt32 = nI M) (d2 : decode Y.2.1 (h0 + 1 + w) = .ok (.if_icmp .ge off, 3)) (ho : ((h0 + 1 + w : Nat) : Int) + off = (tgt : Int))
    {pb : Nat} (hpb : pb = h0 + 1 + w + 3) (e0 : decode Y.2.1 pb = .ok (.aload_n 0, 1)) (e1 : decode Y.2.1 (pb + 1) = .ok (.getfield idx, 3)) (e2 : decode Y.2.1 (pb + 4) = .ok (.iload_n 1, 1)) (e3 : decode Y.2.1 (pb + 5) = .ok (.new ik, 3)) (e4 : decode Y.2.1 (pb + 8) = .ok (.dup, 1)) (e5 : decode Y.2.1 (pb + 9) = .ok (.invokespecial ic, 3)) (e6 : decode Y.2.1 (pb + 12) = .ok (.aastore, 1)) (e7 : decode Y.2.1 (pb + 13) = .ok (.iinc 1 1, 3)) (e8 : decode Y.2.1 (pb + 16) = .ok (.goto off2, 3)) (ho2 : ((pb + 16 : Nat) : Int) + off2 = (h0 : Int))
    {p2 : List va_E} {P : Nat} (hP : p2.length = P) (hj : j < P) {c0 s0 : Nat} (hcc : c0 + s * M ≤ Y.2.2.2.2.cells) (hss : s0 + (N2 + Y'.2.2.2.2.slots) * M ≤ Y.2.2.2.2.slots) (hc0 : c0 = P)
    (kk : ∀ H1 locs1 arr1, bS G X a (.inr (ci, fs) :: ((p2 ++ blk L (a + (P + 1)) s M).set j (.inl (G.2.2.2.1 t, M, rfs (fF (a + (P + 1)) s M))))) H1 locs1 → lv_has arr1 2 [(0, .ref a), (1, .int (nI M))] → zWL G X Y (c0 + s * M) (s0 + (N2 + Y'.2.2.2.2.slots) * M) H1 locs1 Q (zFr X tgt arr1 [])) :
    ∀ (n i : Nat) (H : Heap) (locs : List Loc) (arr : Array Slot), i + n = M → lv_has arr 2 [(0, .ref a), (1, .int (nI i))] → bS G X a (.inr (ci, fs) :: ((p2 ++ blk L (a + (P + 1)) s i).set j (.inl (G.2.2.2.1 t, M, rfs (fF (a + (P + 1)) s i))))) H locs → zWL G X Y (c0 + s * i) (s0 + (N2 + Y'.2.2.2.2.slots) * i) H locs Q (zFr X h0 arr []) := by
  subst hP
  intro n
  induction n with
  | zero =>
    intro i H locs arr hi hl hS
    have hi : i = M := by omega
    subst hi
    exact i_cmp h (by omega) hM hl d0 d1 d2 ho (fun _ => kk H locs arr hS hl) (fun z => absurd z (Nat.lt_irrefl _))
  | succ n ih =>
    intro i H locs arr hi hl hS
    have hiM : i < M := by omega
    have hlen : (p2 ++ blk L (a + (p2.length + 1)) s i).length = p2.length + s * i := by rw [List.length_append, blk_len hLs]
    have m1 : s * i + s ≤ s * M := by rw [← Nat.mul_succ]; exact Nat.mul_le_mul_left _ hiM
    have m2 : (N2 + Y'.2.2.2.2.slots) * i + (N2 + Y'.2.2.2.2.slots) ≤ (N2 + Y'.2.2.2.2.slots) * M := by rw [← Nat.mul_succ]; exact Nat.mul_le_mul_left _ hiM
    have hb' : a + (((p2 ++ blk L (a + (p2.length + 1)) s i).set j (.inl (G.2.2.2.1 t, M, rfs (fF (a + (p2.length + 1)) s i)))).length + 1) = a + (p2.length + 1) + s * i := by rw [List.length_set, hlen]; omega
    refine i_cmp h (by omega) hM hl d0 d1 d2 ho (fun z => absurd z (by omega)) (fun _ => ?_)
    rw [← hpb]
    refine i_elem h hc hk hlink (j := j + 1) hfk ht (f := fF (a + (p2.length + 1)) s i) (by
      show ((p2 ++ blk L (a + (p2.length + 1)) s i).set j _)[j]? = _
      rw [List.getElem?_set_self (by rw [hlen]; omega)]) hC hm hc2 hyC hyi hmd hr2 hrm hfs hw hlk (by omega) (by omega) (hL0 _) hnL hiM hM hl e0 e1 e2 e3 e4 e5 e6 e7 e8 ho2 (by rw [List.length_set, hlen]; omega) hS (fun H1 locs1 arr1 hS1 hl1 => ?_)
    rw [hb'] at hS1
    have hS2 : bS G X a (.inr (ci, fs) :: ((p2 ++ blk L (a + (p2.length + 1)) s (i + 1)).set j (.inl (G.2.2.2.1 t, M, rfs (fF (a + (p2.length + 1)) s (i + 1)))))) H1 locs1 := by
      have q : ((.inr (ci, fs) :: ((p2 ++ blk L (a + (p2.length + 1)) s i).set j (.inl (G.2.2.2.1 t, M, rfs (fF (a + (p2.length + 1)) s i))))) ++ L (a + (p2.length + 1) + s * i)).set (j + 1) (.inl (G.2.2.2.1 t, M, rfs (va_up (fF (a + (p2.length + 1)) s i) i (some (a + (p2.length + 1) + s * i))))) = .inr (ci, fs) :: ((p2 ++ blk L (a + (p2.length + 1)) s (i + 1)).set j (.inl (G.2.2.2.1 t, M, rfs (fF (a + (p2.length + 1)) s (i + 1))))) := by
        show .inr (ci, fs) :: ((((p2 ++ blk L (a + (p2.length + 1)) s i).set j _) ++ L (a + (p2.length + 1) + s * i)).set j _) = _
        rw [set_app (by rw [hlen]; omega), fF_up, List.append_assoc]
        rfl
      rw [← q]; exact hS1
    have := ih (i + 1) H1 locs1 arr1 (by omega) hl1 hS2
    rw [Nat.mul_succ, Nat.mul_succ, ← Nat.add_assoc, ← Nat.add_assoc, ← Nat.add_assoc] at this
    rw [hs9, ← Nat.add_assoc] at this
    rw [hs9]
    exact this
theorem fF_0 (b s : Nat) : fF b s 0 = fun _ => none := by
  funext q
  unfold fF
  rw [if_neg (Nat.not_lt_zero q)]
end BE
