def bt (A : aA) (i : Nat) : Nat := (A.tp.2 i).toNatClampNeg
def WP (A : aA) : Prop := A.tp.1 ≤ 700 ∧ ∀ i, i < A.tp.1 → ∃ b, b < 256 ∧ A.tp.2 i = nI b
theorem WP.b {A : aA} (h : WP A) {i : Nat} (hi : i < A.tp.1) : A.tp.2 i = nI (bt A i) ∧ bt A i < 256 := by
  obtain ⟨b, h1, h2⟩ := h.2 i hi
  unfold bt
  rw [h2, n_cl (by omega)]
  exact ⟨rfl, h1⟩
def newA (T : aT) : aA := (T, sc0 T, none, (0, fun _ _ _ => 0), (0, fun _ => .inl 0), -1, (0, fun _ => 0), (0, -1))
def falA (A : aA) (e p : Int32) : aA := (A.1, A.2.1, A.2.2.1, A.2.2.2.1, A.2.2.2.2.1, A.2.2.2.2.2.1, (0, A.tp.2), (e, p))
abbrev okTx (A : aA) (x : Int32) : Prop := 0 ≤ x ∧ x ≤ nI A.tp.1
def s_text (A : aA) (x : Int32) : aA × Int32 := if okTx A x then (match rdA (bt A) x.toNatClampNeg with
    | .inl (e, j) => (falA A (nI e) (nI (stn (bt A) x.toNatClampNeg j)), -1)
    | .inr (Q, k) => (newA Q.1, nI k)) else (A, -2)
theorem n_ofle {x : Int32} {n : Nat} (hn : n < 2147483647) (h0 : 0 ≤ x) (h1 : x ≤ nI n) : ∃ i, x = nI i ∧ i ≤ n := by
  obtain ⟨k, e, hk⟩ := n_of (x := x) (n := n + 1) (by omega) h0 (Int32.lt_of_le_of_lt h1 (by rw [n_lt (by omega) (by omega)]; omega))
  exact ⟨k, e, by omega⟩
theorem p_clr3 {K : zQ} {I : zI} {L : zJ} {P : zP} (hK : ∀ I' : zI, (∀ a b c, ¬ (a = 3 ∧ b = 0) → I' a b c = I a b c) → I' 3 0 5 = 0 → I' 3 0 6 = -1 → K [] (I', L, P)) : mX3_clear K [ovR] (I, L, P) := by
  show bX3_clear_0 K [some (.inr (.inr (3,0)))] [] (I, L, P)
  unfold bX3_clear_0
  dsimp only [x_int, x_lng, x_ild, x_lld, x_ald, x_ist, x_ast, x_lst, x_inc, x_ii, x_id, x_i, x_ll, x_ld, x_l, x_cmp, x_i2l, x_l2i, x_if, x_ic, x_dup, x_pop, x_dup2, x_gI, x_gL, x_gR, x_g1, x_g0, x_gP, x_pI, x_pZ, x_pL, x_pP, x_al, x_as, x_all, x_asl, x_alr, x_len, x_cpy, x_m2, x_m1, x_m2l, x_m1l, x_call, x_cv, x_ri, x_rz, x_rl, x_rv, zg, zset, zbef, zlong, zcat, cond_true, cond_false, List.take, List.drop, rv1, rv2, rv3, rv4, rv5, rv6, rv7, sm0, sm1, bl0, bl1, bl2, bl3, bl4, bl5, bl6, bl7, bl8, List.nil_append, List.cons_append, List.length_cons, List.length_nil, Nat.reduceBEq, Nat.reduceAdd, Nat.reduceSub, ta, tb, tn0, tn1, tn2, tn3, tn4, tn5, tn6, tn7, tn8, tn9, tn10, tn11, tn12]
  obtain ⟨J1, e1, y1, k1⟩ := zsI_ex I L P 3 0 5 0
  rw [e1]
  obtain ⟨J2, e2, y2, k2⟩ := zsI_ex J1 L P 3 0 6 (-1)
  rw [e2]
  exact hK J2 (fun a b c u => (k2 a b c (by omega)).trans (k1 a b c (by omega))) ((k2 _ _ _ (by decide)).trans y1) y2
theorem p_clr0 {K : zQ} {I : zI} {L : zJ} {P : zP} (hK : ∀ I' : zI, (∀ a b c, ¬ (a = 0 ∧ b = 0) → I' a b c = I a b c) → I' 0 0 1 = 0 → K [] (I', L, P)) : mX0_clear K [.inr (.inr (0, 0))] (I, L, P) := by
  show bX0_clear_0 K [some (.inr (.inr (0,0)))] [] (I, L, P)
  unfold bX0_clear_0
  dsimp only [x_int, x_lng, x_ild, x_lld, x_ald, x_ist, x_ast, x_lst, x_inc, x_ii, x_id, x_i, x_ll, x_ld, x_l, x_cmp, x_i2l, x_l2i, x_if, x_ic, x_dup, x_pop, x_dup2, x_gI, x_gL, x_gR, x_g1, x_g0, x_gP, x_pI, x_pZ, x_pL, x_pP, x_al, x_as, x_all, x_asl, x_alr, x_len, x_cpy, x_m2, x_m1, x_m2l, x_m1l, x_call, x_cv, x_ri, x_rz, x_rl, x_rv, zg, zset, zbef, zlong, zcat, cond_true, cond_false, List.take, List.drop, rv1, rv2, rv3, rv4, rv5, rv6, rv7, sm0, sm1, bl0, bl1, bl2, bl3, bl4, bl5, bl6, bl7, bl8, List.nil_append, List.cons_append, List.length_cons, List.length_nil, Nat.reduceBEq, Nat.reduceAdd, Nat.reduceSub, ta, tb, tn0, tn1, tn2, tn3, tn4, tn5, tn6, tn7, tn8, tn9, tn10, tn11, tn12]
  obtain ⟨J1, e1, y1, k1⟩ := zsI_ex I L P 0 0 1 0
  rw [e1]
  exact hK J1 (fun a b c u => k1 a b c (by omega)) y1
theorem c_text {K : zQ} {I : zI} {L : zJ} {P : zP} {A : aA} {x : Int32} (wP : WP A) (hC : RC A I P) (hK : ∀ (I' : zI) (P' : zP), RC (s_text A x).1 I' P' → frX I I' L L → K [.inl (s_text A x).2] (I', L, P')) : mX11_text K [kbR, .inl x] (I, L, P) := by
  obtain ⟨t, h1, h2, h3, h4, h5, h6, h7, h8, h9⟩ := hC
  have hC0 : RC A I P := ⟨t, h1, h2, h3, h4, h5, h6, h7, h8, h9⟩
  obtain ⟨hT, p1, p2, hg, hn⟩ := h1
  have t2 := hT.1
  have tl := h7.1
  have w7 := wP.1
  have bad : ¬ okTx A x → K [.inl (-2)] (I, L, P) := fun z => by
    have hk := hK I P
    unfold s_text at hk
    rw [if_neg z] at hk
    exact hk hC0 frX.rf
  show bX11_text_0 K [some (.inr (.inr (11,0))), some (.inl x), none] [] (I, L, P)
  unfold bX11_text_0
  dsimp only [x_int, x_lng, x_ild, x_lld, x_ald, x_ist, x_ast, x_lst, x_inc, x_ii, x_id, x_i, x_ll, x_ld, x_l, x_cmp, x_i2l, x_l2i, x_if, x_ic, x_dup, x_pop, x_dup2, x_gI, x_gL, x_gR, x_g1, x_g0, x_gP, x_pI, x_pZ, x_pL, x_pP, x_al, x_as, x_all, x_asl, x_alr, x_len, x_cpy, x_m2, x_m1, x_m2l, x_m1l, x_call, x_cv, x_ri, x_rz, x_rl, x_rv, zg, zset, zbef, zlong, zcat, cond_true, cond_false, List.take, List.drop, rv1, rv2, rv3, rv4, rv5, rv6, rv7, sm0, sm1, bl0, bl1, bl2, bl3, bl4, bl5, bl6, bl7, bl8, List.nil_append, List.cons_append, List.length_cons, List.length_nil, Nat.reduceBEq, Nat.reduceAdd, Nat.reduceSub, ta, tb, tn0, tn1, tn2, tn3, tn4, tn5, tn6, tn7, tn8, tn9, tn10, tn11, tn12, bX11_text_12]
  rw [tl]
  refine ⟨fun c => bad (fun z => Int32.not_lt.mpr z.1 c), fun c => ⟨fun d => ?_, fun d => bad (fun z => d z.2)⟩⟩
  have good : okTx A x := ⟨Int32.not_lt.mp c, d⟩
  unfold s_text at hK
  rw [if_pos good] at hK
  obtain ⟨n, rfl, hnn⟩ := n_ofle (by omega) good.1 good.2
  rw [n_cl (n := n) (by omega)] at hK
  obtain ⟨J1, e1, y1, k1⟩ := zsI_ex I L P 11 0 13 0
  rw [e1]
  dsimp only
  rw [p2]
  refine ⟨by show 1 - t < 2; omega, p_isRead (B := bt A) (d := 1 - t) (fun i hi => (wP.b (by omega)).2) (by omega) (by omega) (fun i hi => ?_) (fun i hi => (k1 _ _ _ (by omega)).trans (h9 i hi)) (fun I2 P2 f2 q2 o2 => ?_)⟩
  · rw [k1 _ _ _ (by omega), h7.2.2 i (by omega)]; exact (wP.b (by omega)).1
  have al : ∀ a b q, ¬ (a = 11 ∧ b = 0 ∧ q = 13) → ¬ dK (1 - t) a b → I2 a b q = I a b q := fun a b q u1 u2 => (f2 a b q u2).trans (k1 a b q u1)
  have tl2 : I2 11 0 13 = 0 := (f2 _ _ _ (by unfold dK; omega)).trans y1
  dsimp only [x_int, x_lng, x_ild, x_lld, x_ald, x_ist, x_ast, x_lst, x_inc, x_ii, x_id, x_i, x_ll, x_ld, x_l, x_cmp, x_i2l, x_l2i, x_if, x_ic, x_dup, x_pop, x_dup2, x_gI, x_gL, x_gR, x_g1, x_g0, x_gP, x_pI, x_pZ, x_pL, x_pP, x_al, x_as, x_all, x_asl, x_alr, x_len, x_cpy, x_m2, x_m1, x_m2l, x_m1l, x_call, x_cv, x_ri, x_rz, x_rl, x_rv, zg, zset, zbef, zlong, zcat, cond_true, cond_false, List.take, List.drop, rv1, rv2, rv3, rv4, rv5, rv6, rv7, sm0, sm1, bl0, bl1, bl2, bl3, bl4, bl5, bl6, bl7, bl8, List.nil_append, List.cons_append, List.length_cons, List.length_nil, Nat.reduceBEq, Nat.reduceAdd, Nat.reduceSub, ta, tb, tn0, tn1, tn2, tn3, tn4, tn5, tn6, tn7, tn8, tn9, tn10, tn11, tn12]
  cases er : rdA (bt A) n with
  | inl v =>
    obtain ⟨e, j⟩ := v
    rw [er] at hK o2
    refine ⟨fun _ => ?_, fun z => absurd rfl z⟩
    refine hK I2 P2 ⟨t, ⟨hT.w (fun q => al _ _ _ (by omega) (by unfold dK; omega)) (fun y hy => ⟨fun q => al _ _ _ (by omega) (by have := hT.h6; unfold dK; omega), fun q => al _ _ _ (by omega) (by have := hT.h6; unfold dK; omega)⟩) (fun y hy q => al _ _ _ (by omega) (by have := hT.w4; unfold dK; omega)) (fun y hy q => al _ _ _ (by omega) (by have := hT.r10; unfold dK; omega)) (fun y hy q => ⟨al _ _ _ (by omega) (by unfold dK; omega), al _ _ _ (by omega) (by unfold dK; omega)⟩), (q2 _ _ _ (by decide) (by decide)).trans p1, (q2 _ _ _ (by decide) (by decide)).trans p2, fun y hy i hi => by have hy : y < A.T.1 0 := hy; rw [al _ _ _ (by omega) (by have := hT.h6; unfold dK; omega)]; exact hg y hy i hi, ?_⟩, (q2 _ _ _ (by decide) (by decide)).trans h2, h3.fr (fun a q u => al _ _ _ (by have := csK8 u; omega) (by have := csK8 u; unfold dK; omega)), ?_, ?_, ?_, ⟨tl2, Nat.zero_le _, fun i hi => absurd hi (Nat.not_lt_zero _)⟩, ⟨o2.1, o2.2.2⟩, fun i hi => (al _ _ _ (by omega) (by unfold dK; omega)).trans (h9 i hi)⟩ ⟨fun a b q u => al a b q (by omega) (by unfold dK; omega), fun _ _ _ _ => rfl⟩
    · rw [al 9 t _ (by omega) (by unfold dK; omega), al 9 t _ (by omega) (by unfold dK; omega)]; exact hn
    · revert h4
      unfold RCi
      show (match A.im with | none => _ | some S => _) → (match A.im with | none => _ | some S => _)
      cases A.im with
      | none => intro h4; exact (al _ _ _ (by decide) (by unfold dK; omega)).trans h4
      | some S => intro h4; exact ⟨(al _ _ _ (by decide) (by unfold dK; omega)).trans h4.1, (q2 _ _ _ (by decide) (by decide)).trans h4.2.1, h4.2.2.fr (fun a q u => al _ _ _ (by have := csK8 u; omega) (by have := csK8 u; unfold dK; omega))⟩
    · obtain ⟨g1, g2, g3⟩ := h5
      refine ⟨(al _ _ _ (by omega) (by unfold dK; omega)).trans g1, g2, fun i hi => ?_⟩
      have e : (fun q => I2 13 0 (4 * i + q)) = fun q => I 13 0 (4 * i + q) := by funext q; exact al _ _ _ (by omega) (by unfold dK; omega)
      rw [e]; exact g3 i hi
    · exact h6.q (fun a q u => al _ _ _ (by omega) (by unfold dK; omega))
  | inr v =>
    obtain ⟨Q, k⟩ := v
    rw [er] at hK o2
    obtain ⟨o3, o4, o5, o6⟩ := o2
    refine ⟨fun z => absurd z (show ¬ (1 : Int32) = 0 by decide), fun _ => ?_⟩
    have p112 : P2 11 0 11 = t := (q2 _ _ _ (by decide) (by decide)).trans p1
    have p122 : P2 11 0 12 = 1 - t := (q2 _ _ _ (by decide) (by decide)).trans p2
    rw [p112, p122]
    refine ⟨t2, by show 1 - t < 2; omega, ?_⟩
    obtain ⟨P3, eP3, wP3, fP3⟩ := zsP_ex I2 L P2 11 0 11 (1 - t)
    rw [eP3]
    obtain ⟨P4, eP4, wP4, fP4⟩ := zsP_ex I2 L P3 11 0 12 t
    rw [eP4]
    dsimp only
    have told4 : P4 11 0 11 = 1 - t := (fP4 _ _ _ (by decide)).trans wP3
    rw [told4]
    refine ⟨by show 1 - t < 2; omega, p_begin (j := 0) o5.1 (fun I5 P5 f5 s5 w5 q5 => ?_)⟩
    dsimp only [x_int, x_lng, x_ild, x_lld, x_ald, x_ist, x_ast, x_lst, x_inc, x_ii, x_id, x_i, x_ll, x_ld, x_l, x_cmp, x_i2l, x_l2i, x_if, x_ic, x_dup, x_pop, x_dup2, x_gI, x_gL, x_gR, x_g1, x_g0, x_gP, x_pI, x_pZ, x_pL, x_pP, x_al, x_as, x_all, x_asl, x_alr, x_len, x_cpy, x_m2, x_m1, x_m2l, x_m1l, x_call, x_cv, x_ri, x_rz, x_rl, x_rv, zg, zset, zbef, zlong, zcat, cond_true, cond_false, List.take, List.drop, rv1, rv2, rv3, rv4, rv5, rv6, rv7, sm0, sm1, bl0, bl1, bl2, bl3, bl4, bl5, bl6, bl7, bl8, List.nil_append, List.cons_append, List.length_cons, List.length_nil, Nat.reduceBEq, Nat.reduceAdd, Nat.reduceSub, ta, tb, tn0, tn1, tn2, tn3, tn4, tn5, tn6, tn7, tn8, tn9, tn10, tn11, tn12]
    refine p_clr3 (fun I6 f6 y6 z6 => ?_)
    dsimp only [x_int, x_lng, x_ild, x_lld, x_ald, x_ist, x_ast, x_lst, x_inc, x_ii, x_id, x_i, x_ll, x_ld, x_l, x_cmp, x_i2l, x_l2i, x_if, x_ic, x_dup, x_pop, x_dup2, x_gI, x_gL, x_gR, x_g1, x_g0, x_gP, x_pI, x_pZ, x_pL, x_pP, x_al, x_as, x_all, x_asl, x_alr, x_len, x_cpy, x_m2, x_m1, x_m2l, x_m1l, x_call, x_cv, x_ri, x_rz, x_rl, x_rv, zg, zset, zbef, zlong, zcat, cond_true, cond_false, List.take, List.drop, rv1, rv2, rv3, rv4, rv5, rv6, rv7, sm0, sm1, bl0, bl1, bl2, bl3, bl4, bl5, bl6, bl7, bl8, List.nil_append, List.cons_append, List.length_cons, List.length_nil, Nat.reduceBEq, Nat.reduceAdd, Nat.reduceSub, ta, tb, tn0, tn1, tn2, tn3, tn4, tn5, tn6, tn7, tn8, tn9, tn10, tn11, tn12]
    refine p_clr0 (fun I7 f7 y7 => ?_)
    dsimp only [x_int, x_lng, x_ild, x_lld, x_ald, x_ist, x_ast, x_lst, x_inc, x_ii, x_id, x_i, x_ll, x_ld, x_l, x_cmp, x_i2l, x_l2i, x_if, x_ic, x_dup, x_pop, x_dup2, x_gI, x_gL, x_gR, x_g1, x_g0, x_gP, x_pI, x_pZ, x_pL, x_pP, x_al, x_as, x_all, x_asl, x_alr, x_len, x_cpy, x_m2, x_m1, x_m2l, x_m1l, x_call, x_cv, x_ri, x_rz, x_rl, x_rv, zg, zset, zbef, zlong, zcat, cond_true, cond_false, List.take, List.drop, rv1, rv2, rv3, rv4, rv5, rv6, rv7, sm0, sm1, bl0, bl1, bl2, bl3, bl4, bl5, bl6, bl7, bl8, List.nil_append, List.cons_append, List.length_cons, List.length_nil, Nat.reduceBEq, Nat.reduceAdd, Nat.reduceSub, ta, tb, tn0, tn1, tn2, tn3, tn4, tn5, tn6, tn7, tn8, tn9, tn10, tn11, tn12]
    refine ⟨Or.inl rfl, ?_⟩
    obtain ⟨J8, e8, y8, k8⟩ := zsI_ex I7 L P5 11 0 14 0
    rw [e8]
    dsimp only
    have told5 : P5 11 0 11 = 1 - t := (q5 _ _ _ (by decide)).trans told4
    rw [told5]
    have b5 : ∀ a b q, ¬ (b = 0 ∧ (a = 8 ∨ (31 ≤ a ∧ a ≤ 41))) → ¬ (b = 0 ∧ (a = 3 ∨ a = 0 ∨ (a = 11 ∧ q = 14))) → J8 a b q = I2 a b q := fun a b q u1 u2 => by
      rw [k8 a b q (by omega), f7 a b q (by omega), f6 a b q (by omega)]
      exact f5.e u1
    have ln : J8 9 (1 - t) 12 = nI k := by rw [b5 _ _ _ (by omega) (by omega)]; exact o6
    rw [ln]
    refine ⟨by show 1 - t < 2; omega, ?_⟩
    have Q8 : CQ J8 (1 - t) Q := o5.r (fun a b q u => b5 _ _ _ (by omega) (by omega))
    refine hK J8 P5 ⟨1 - t, ⟨Q8.1, told5, ?_, Q8.2.1, Or.inl ⟨Q8.2.2.2.2.1, Q8.2.2.2.2.2⟩⟩, w5, ?_, y8, ⟨?_, Nat.zero_le _, fun i hi => absurd hi (Nat.not_lt_zero _)⟩, ⟨?_, Nat.zero_le _, ?_, Or.inl rfl, fun i hi => absurd hi (Nat.not_lt_zero _)⟩, ⟨?_, Nat.zero_le _, fun i hi => absurd hi (Nat.not_lt_zero _)⟩, ⟨?_, ?_⟩, fun i hi => ?_⟩ ⟨fun a b q u => ?_, fun _ _ _ _ => rfl⟩
    · rw [q5 _ _ _ (by decide), wP4]; omega
    · exact s5.fr (fun a q u => by have := csK8 u; rw [k8 _ _ _ (by omega), f7 _ _ _ (by omega), f6 _ _ _ (by omega)])
    · rw [k8 _ _ _ (by omega)]; exact y7
    · rw [k8 _ _ _ (by omega), f7 _ _ _ (by omega)]; exact y6
    · rw [k8 _ _ _ (by omega), f7 _ _ _ (by omega)]; exact z6
    · rw [b5 _ _ _ (by omega) (by decide)]; exact tl2
    · rw [b5 _ _ _ (by omega) (by omega)]; exact o3
    · rw [b5 _ _ _ (by omega) (by omega)]; exact o4
    · rw [b5 _ _ _ (by omega) (by omega), al _ _ _ (by omega) (by unfold dK; omega)]; exact h9 i hi
    · rw [b5 a b q (by omega) (by omega)]; exact al a b q (by omega) (by unfold dK; omega)
