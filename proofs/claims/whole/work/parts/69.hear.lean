def updO (A : aA) (O' : aH) (l' : Int32) : aA := (A.1, A.2.1, A.2.2.1, A.2.2.2.1, O', l', A.2.2.2.2.2.2)
theorem RC.updO {A : aA} {I I' : zI} {P : zP} {O' : aH} {l' : Int32} (h : RC A I P) (e : ony (fun a _ => a = 3 ∨ a = 18 ∨ a = 19 ∨ a = 20 ∨ a = 21) I I') (hO : RCo A.T O' l' I') : RC (updO A O' l') I' P := by
  obtain ⟨t, h1, h2, h3, h4, h5, h6, h7, h8, h9⟩ := h
  exact ⟨t, h1.e (fun a b c q => e a b c (by have := ctK8 q; omega)) (fun _ => rfl), h2, h3.fr (fun a c q => e _ _ _ (by have := csK8 q; omega)), h4.e (e _ _ _ (by omega)) (fun a c q => e _ _ _ (by omega)) rfl, h5.cg (e _ _ _ (by omega)) (fun c => e _ _ _ (by omega)), hO, h7.e (e _ _ _ (by omega)) (fun c => e _ _ _ (by omega)), ⟨(e _ _ _ (by omega)).trans h8.1, (e _ _ _ (by omega)).trans h8.2⟩, fun i hi => (e _ _ _ (by omega)).trans (h9 i hi)⟩
theorem RR.updO {A : aA} {I I' : zI} {L : zJ} {O' : aH} {l' : Int32} (h : RR A I L) (e : ony (fun a c => a = 89 ∨ (a = 12 ∧ (c = 69 ∨ c = 70))) I I') (hO : RRo O' l' I') : RR (updO A O' l') I' L := by
  obtain ⟨h1, h2, h3, h4, h5, h6, h7, h8, h9, h10, h11⟩ := h
  exact ⟨h1.fr (fun a c q => e.lo (by have := rtK8 q; omega)), h2.fr (fun a c q => e.lo (by have := rsK8 q; omega)), h3.e (fun c _ _ => e.lo (by omega)), fun c hc => by rw [e.lo (by omega)]; exact h4 c hc, h5, h6.e (e.lo (by decide)) (fun a c q => e.lo (by omega)) rfl, ⟨(e.lo (by decide)).trans h7.1, fun i hi => (h7.2 i hi).q (fun c => e.lo (by omega))⟩, hO, ⟨(e.lo (by decide)).trans h9.1, fun i hi => (e.lo (by omega)).trans (h9.2 i hi)⟩, ⟨(e.lo (by decide)).trans h10.1, (e.lo (by decide)).trans h10.2⟩, fun i hi => (e.lo (by omega)).trans (h11 i hi)⟩
def pushO (O : aH) (v : Nat ⊕ (Nat × Nat × Bool)) : aH := (O.1 + 1, fun i => if i = O.1 then v else O.2 i)
/-- one more, in the class -/
theorem p_addO {K : zQ} {I : zI} {L : zJ} {P : zP} {n : Nat} {r k x : Int32} (hn : n < 24) (hx : zb x) (hs : I 3 0 5 = nI n) (hK : ∀ I' : zI, ony (fun a c => (a = 3 ∧ c = 5) ∨ ((a = 18 ∨ a = 19 ∨ a = 20 ∨ a = 21) ∧ c = n)) I I' → I' 3 0 5 = nI (n + 1) → I' 18 0 n = r → I' 19 0 n = k → I' 20 0 n = x → I' 21 0 n = -1 → K [.inl (nI n)] (I', L, P)) : mX3_add K [.inr (.inr (3, 0)), .inl r, .inl k, .inl x] (I, L, P) := by
  show bX3_add_0 K [some (.inr (.inr (3,0))), some (.inl r), some (.inl k), some (.inl x)] [] (I, L, P)
  unfold bX3_add_0
  dsimp only [x_int, x_lng, x_ild, x_lld, x_ald, x_ist, x_ast, x_lst, x_inc, x_ii, x_id, x_i, x_ll, x_ld, x_l, x_cmp, x_i2l, x_l2i, x_if, x_ic, x_dup, x_pop, x_dup2, x_gI, x_gL, x_gR, x_g1, x_g0, x_gP, x_pI, x_pZ, x_pL, x_pP, x_al, x_as, x_all, x_asl, x_alr, x_len, x_cpy, x_m2, x_m1, x_m2l, x_m1l, x_call, x_cv, x_ri, x_rz, x_rl, x_rv, zg, zset, zbef, zlong, zcat, cond_true, cond_false, List.take, List.drop, rv1, rv2, rv3, rv4, rv5, rv6, rv7, sm0, sm1, bl0, bl1, bl2, bl3, bl4, bl5, bl6, bl7, bl8, List.nil_append, List.cons_append, List.length_cons, List.length_nil, Nat.reduceBEq, Nat.reduceAdd, Nat.reduceSub, ta, tb, tn0, tn1, tn2, tn3, tn4, tn5, tn6, tn7, tn8, tn9, tn10, tn11, tn12, zk_18, zl_18, zk_19, zl_19, zk_20, zl_20, zk_21, zl_21]
  have zi : zin (nI n) 24 := n_zin hn (by decide)
  rw [hs, n_cl (n := n) (by omega), nar01 hx]
  obtain ⟨I1, e1, v1, f1⟩ := zsI_ex I L P 18 0 n r
  rw [e1]
  dsimp only
  rw [f1 3 0 _ (by omega), hs, n_cl (n := n) (by omega)]
  obtain ⟨I2, e2, v2, f2⟩ := zsI_ex I1 L P 19 0 n k
  rw [e2]
  dsimp only
  rw [f2 3 0 _ (by omega), f1 3 0 _ (by omega), hs, n_cl (n := n) (by omega)]
  obtain ⟨I3, e3, v3, f3⟩ := zsI_ex I2 L P 20 0 n x
  rw [e3]
  dsimp only
  rw [f3 3 0 _ (by omega), f2 3 0 _ (by omega), f1 3 0 _ (by omega), hs, n_cl (n := n) (by omega)]
  obtain ⟨I4, e4, v4, f4⟩ := zsI_ex I3 L P 21 0 n (-1)
  rw [e4]
  dsimp only
  rw [f4 3 0 _ (by omega), f3 3 0 _ (by omega), f2 3 0 _ (by omega), f1 3 0 _ (by omega), hs, n_succ n]
  obtain ⟨I5, e5, v5, f5⟩ := zsI_ex I4 L P 3 0 5 (nI (n + 1))
  rw [e5]
  dsimp only
  rw [v5, show nI (n + 1) - 1 = nI n by rw [← n_succ n, Int32.add_sub_cancel]]
  refine ⟨fun _ => ⟨zi, zi, zi, zi, hK I5 (fun a b c q => ?_) v5 ?_ ?_ ?_ ?_⟩, fun c => absurd ?_ c⟩
  · exact ((((f5 a b c (fun z => q ⟨z.2.1, by omega⟩)).trans (f4 a b c (fun z => q ⟨z.2.1, by omega⟩))).trans (f3 a b c (fun z => q ⟨z.2.1, by omega⟩))).trans (f2 a b c (fun z => q ⟨z.2.1, by omega⟩))).trans (f1 a b c (fun z => q ⟨z.2.1, by omega⟩))
  · rw [f5 _ _ _ (by omega), f4 _ _ _ (by omega), f3 _ _ _ (by omega), f2 _ _ _ (by omega), v1]
  · rw [f5 _ _ _ (by omega), f4 _ _ _ (by omega), f3 _ _ _ (by omega), v2]
  · rw [f5 _ _ _ (by omega), f4 _ _ _ (by omega), v3]
  · rw [f5 _ _ _ (by omega), v4]
  · rw [show (24 : Int32) = nI 24 from rfl, n_lt (by omega) (by decide)]; exact hn
theorem p_addO0 {K : zQ} {I : zI} {L : zJ} {P : zP} {n : Nat} {r k x : Int32} (hn : ¬ n < 24) (hn2 : n ≤ 24) (hs : I 3 0 5 = nI n) (hK : K [.inl (-1)] (I, L, P)) : mX3_add K [.inr (.inr (3, 0)), .inl r, .inl k, .inl x] (I, L, P) := by
  show bX3_add_0 K [some (.inr (.inr (3,0))), some (.inl r), some (.inl k), some (.inl x)] [] (I, L, P)
  unfold bX3_add_0
  dsimp only [x_int, x_lng, x_ild, x_lld, x_ald, x_ist, x_ast, x_lst, x_inc, x_ii, x_id, x_i, x_ll, x_ld, x_l, x_cmp, x_i2l, x_l2i, x_if, x_ic, x_dup, x_pop, x_dup2, x_gI, x_gL, x_gR, x_g1, x_g0, x_gP, x_pI, x_pZ, x_pL, x_pP, x_al, x_as, x_all, x_asl, x_alr, x_len, x_cpy, x_m2, x_m1, x_m2l, x_m1l, x_call, x_cv, x_ri, x_rz, x_rl, x_rv, zg, zset, zbef, zlong, zcat, cond_true, cond_false, List.take, List.drop, rv1, rv2, rv3, rv4, rv5, rv6, rv7, sm0, sm1, bl0, bl1, bl2, bl3, bl4, bl5, bl6, bl7, bl8, List.nil_append, List.cons_append, List.length_cons, List.length_nil, Nat.reduceBEq, Nat.reduceAdd, Nat.reduceSub, ta, tb, tn0, tn1, tn2, tn3, tn4, tn5, tn6, tn7, tn8, tn9, tn10, tn11, tn12, zk_18, zl_18, zk_19, zl_19, zk_20, zl_20, zk_21, zl_21]
  rw [hs]
  refine ⟨fun c => absurd c ?_, fun _ => hK⟩
  rw [show (24 : Int32) = nI 24 from rfl, n_lt (by omega) (by decide)]; exact hn
theorem p_noted {K : zQ} {I : zI} {L : zJ} {P : zP} {n : Nat} {r k x : Int32} (hn : n < 24) (hs : I 12 0 69 = nI n) (hK : ∀ I' : zI, ony (fun a c => (a = 12 ∧ c = 69) ∨ (a = 89 ∧ 3 * n ≤ c)) I I' → I' 12 0 69 = nI (n + 1) → I' 89 0 (3 * n) = r → I' 89 0 (3 * n + 1) = k → I' 89 0 (3 * n + 2) = x → K [.inl (nI n)] (I', L, P)) : mX12_noted K [refR, .inl r, .inl k, .inl x] (I, L, P) := by
  show bX12_noted_0 K [some (.inr (.inr (12,0))), some (.inl r), some (.inl k), some (.inl x)] [] (I, L, P)
  unfold bX12_noted_0
  dsimp only [x_int, x_lng, x_ild, x_lld, x_ald, x_ist, x_ast, x_lst, x_inc, x_ii, x_id, x_i, x_ll, x_ld, x_l, x_cmp, x_i2l, x_l2i, x_if, x_ic, x_dup, x_pop, x_dup2, x_gI, x_gL, x_gR, x_g1, x_g0, x_gP, x_pI, x_pZ, x_pL, x_pP, x_al, x_as, x_all, x_asl, x_alr, x_len, x_cpy, x_m2, x_m1, x_m2l, x_m1l, x_call, x_cv, x_ri, x_rz, x_rl, x_rv, zg, zset, zbef, zlong, zcat, cond_true, cond_false, List.take, List.drop, rv1, rv2, rv3, rv4, rv5, rv6, rv7, sm0, sm1, bl0, bl1, bl2, bl3, bl4, bl5, bl6, bl7, bl8, List.nil_append, List.cons_append, List.length_cons, List.length_nil, Nat.reduceBEq, Nat.reduceAdd, Nat.reduceSub, ta, tb, tn0, tn1, tn2, tn3, tn4, tn5, tn6, tn7, tn8, tn9, tn10, tn11, tn12, zk_89, zl_89]
  have m3 : (3 : Int32) * nI n = nI (3 * n) := n_mul 3 n
  rw [hs, m3, n_cl (n := 3 * n) (by omega)]
  obtain ⟨I1, e1, v1, f1⟩ := zsI_ex I L P 89 0 (3 * n) r
  rw [e1]
  dsimp only
  rw [f1 12 0 _ (by omega), hs, m3, show nI (3 * n) + 1 = nI (3 * n + 1) from n_add _ 1, n_cl (n := 3 * n + 1) (by omega)]
  obtain ⟨I2, e2, v2, f2⟩ := zsI_ex I1 L P 89 0 (3 * n + 1) k
  rw [e2]
  dsimp only
  rw [f2 12 0 _ (by omega), f1 12 0 _ (by omega), hs, m3, show nI (3 * n) + 2 = nI (3 * n + 2) from n_add _ 2, n_cl (n := 3 * n + 2) (by omega)]
  obtain ⟨I3, e3, v3, f3⟩ := zsI_ex I2 L P 89 0 (3 * n + 2) x
  rw [e3]
  dsimp only
  rw [f3 12 0 _ (by omega), f2 12 0 _ (by omega), f1 12 0 _ (by omega), hs, n_succ n]
  obtain ⟨I5, e5, v5, f5⟩ := zsI_ex I3 L P 12 0 69 (nI (n + 1))
  rw [e5]
  dsimp only
  rw [v5, show nI (n + 1) - 1 = nI n by rw [← n_succ n, Int32.add_sub_cancel]]
  refine ⟨n_zin (by omega) (by decide), n_zin (by omega) (by decide), n_zin (by omega) (by decide), hK I5 (fun a b c q => ?_) v5 ?_ ?_ ?_⟩
  · exact (((f5 a b c (fun z => q ⟨z.2.1, by omega⟩)).trans (f3 a b c (fun z => q ⟨z.2.1, by omega⟩))).trans (f2 a b c (fun z => q ⟨z.2.1, by omega⟩))).trans (f1 a b c (fun z => q ⟨z.2.1, by omega⟩))
  · rw [f5 _ _ _ (by omega), f3 _ _ _ (by omega), f2 _ _ _ (by omega), v1]
  · rw [f5 _ _ _ (by omega), f3 _ _ _ (by omega), v2]
  · rw [f5 _ _ _ (by omega), v3]
theorem RCo.push {T : aT} {O : aH} {lm : Int32} {I I' : zI} {v : Nat ⊕ (Nat × Nat × Bool)} (h : RCo T O lm I) (hn : O.1 < 24) (e : ony (fun a c => (a = 3 ∧ c = 5) ∨ ((a = 18 ∨ a = 19 ∨ a = 20 ∨ a = 21) ∧ c = O.1)) I I') (hs : I' 3 0 5 = nI (O.1 + 1)) (hv : match v with
  | .inl j => j < O.1 ∧ I' 21 0 O.1 = nI j
  | .inr (r, k, b) => r < T.1 2 ∧ k < 6 ∧ I' 18 0 O.1 = nI r ∧ I' 19 0 O.1 = nI k ∧ I' 20 0 O.1 = (if b = true then 1 else 0) ∧ I' 21 0 O.1 = -1) : RCo T (pushO O v) lm I' := by
  obtain ⟨g1, g2, g3, g4, g5⟩ := h
  refine ⟨hs, by show O.1 + 1 ≤ 24; omega, (e.lo (by omega)).trans g3, ?_, fun i hi => ?_⟩
  · rcases g4 with g4 | ⟨m, g4, g6⟩
    · exact Or.inl g4
    · exact Or.inr ⟨m, by show m ≤ O.1 + 1; omega, g6⟩
  · have hi : i < O.1 + 1 := hi
    by_cases z : i = O.1
    · subst z
      have : (pushO O v).2 O.1 = v := if_pos rfl
      rw [this]; exact hv
    · have : (pushO O v).2 i = O.2 i := if_neg z
      rw [this]
      have := g5 i (by omega)
      rw [e.lo (a := 18) (by omega), e.lo (a := 19) (by omega), e.lo (a := 20) (by omega), e.lo (a := 21) (by omega)]
      exact this
theorem RRo.push {O : aH} {lm : Int32} {I I' : zI} {v : Nat ⊕ (Nat × Nat × Bool)} (h : RRo O lm I) (e : ony (fun a c => (a = 12 ∧ c = 69) ∨ (a = 89 ∧ 3 * O.1 ≤ c)) I I') (hs : I' 12 0 69 = nI (O.1 + 1)) (hv : match v with
  | .inl j => I' 89 0 (3 * O.1) = -1 ∧ I' 89 0 (3 * O.1 + 1) = nI j
  | .inr (r, k, b) => I' 89 0 (3 * O.1) = nI r ∧ I' 89 0 (3 * O.1 + 1) = nI k ∧ I' 89 0 (3 * O.1 + 2) = (if b = true then 1 else 0)) : RRo (pushO O v) lm I' := by
  obtain ⟨g1, g2, g3⟩ := h
  refine ⟨hs, (e.lo (by omega)).trans g2, fun i hi => ?_⟩
  have hi : i < O.1 + 1 := hi
  by_cases z : i = O.1
  · subst z
    have : (pushO O v).2 O.1 = v := if_pos rfl
    rw [this]; exact hv
  · have : (pushO O v).2 i = O.2 i := if_neg z
    rw [this]
    have := g3 i (by omega)
    rw [e.lo (c := 3 * i) (by omega), e.lo (c := 3 * i + 1) (by omega), e.lo (c := 3 * i + 2) (by omega)]
    exact this
-- hear
abbrev okH (A : aA) (r k : Int32) : Prop := okN (A.T.1 2) r ∧ okI k 0 5 ∧ A.O.1 < 24
def s_hear (A : aA) (r k x : Int32) : aA × Int32 := if okH A r k then (updO A (pushO A.O (.inr (r.toNatClampNeg, k.toNatClampNeg, decide (¬ x = 0)))) A.lm, nI A.O.1) else (A, -1)
theorem bd_of {x : Int32} (h : zb x) : x = (if decide (¬ x = 0) = true then 1 else 0) := by
  rcases h with rfl | rfl <;> decide
theorem okI5 {k : Int32} (h : okI k 0 5) : ∃ y, k = nI y ∧ y < 6 := by
  obtain ⟨y, rfl, hy⟩ := n_nn h.1
  have := h.2
  rw [show (5 : Int32) = nI 5 from rfl, n_le hy (by decide)] at this
  exact ⟨y, rfl, by omega⟩
theorem c_hear {K : zQ} {I : zI} {L : zJ} {P : zP} {A : aA} {r k x : Int32} (hx : zb x) (hC : RC A I P) (hK : ∀ (I' : zI), RC (s_hear A r k x).1 I' P → frX I I' L L → K [.inl (s_hear A r k x).2] (I', L, P)) : mX11_hear K [kbR, .inl r, .inl k, .inl x] (I, L, P) := by
  obtain ⟨t, hT, h11, h8, hS⟩ := hC.b
  have r10 := hT.r10
  have hO : RCo A.T A.O A.lm I := by obtain ⟨t, -, -, -, -, -, hO, -⟩ := hC; exact hO
  have bad : ¬ okH A r k → K [.inl (-1)] (I, L, P) := fun z => by
    unfold s_hear at hK
    rw [if_neg z] at hK
    exact hK I hC frX.rf
  show bX11_hear_0 K [some (.inr (.inr (11,0))), some (.inl r), some (.inl k), some (.inl x)] [] (I, L, P)
  unfold bX11_hear_0
  dsimp only [x_int, x_lng, x_ild, x_lld, x_ald, x_ist, x_ast, x_lst, x_inc, x_ii, x_id, x_i, x_ll, x_ld, x_l, x_cmp, x_i2l, x_l2i, x_if, x_ic, x_dup, x_pop, x_dup2, x_gI, x_gL, x_gR, x_g1, x_g0, x_gP, x_pI, x_pZ, x_pL, x_pP, x_al, x_as, x_all, x_asl, x_alr, x_len, x_cpy, x_m2, x_m1, x_m2l, x_m1l, x_call, x_cv, x_ri, x_rz, x_rl, x_rv, zg, zset, zbef, zlong, zcat, cond_true, cond_false, List.take, List.drop, rv1, rv2, rv3, rv4, rv5, rv6, rv7, sm0, sm1, bl0, bl1, bl2, bl3, bl4, bl5, bl6, bl7, bl8, List.nil_append, List.cons_append, List.length_cons, List.length_nil, Nat.reduceBEq, Nat.reduceAdd, Nat.reduceSub, ta, tb, tn0, tn1, tn2, tn3, tn4, tn5, tn6, tn7, tn8, tn9, tn10, tn11, tn12, bX11_hear_31, bX11_hear_32]
  refine p_isRapC hT h11 (fun ok => ?_) (fun no => ⟨fun _ => bad (fun z => no z.1), fun z => absurd rfl z⟩)
  dsimp only [x_int, x_lng, x_ild, x_lld, x_ald, x_ist, x_ast, x_lst, x_inc, x_ii, x_id, x_i, x_ll, x_ld, x_l, x_cmp, x_i2l, x_l2i, x_if, x_ic, x_dup, x_pop, x_dup2, x_gI, x_gL, x_gR, x_g1, x_g0, x_gP, x_pI, x_pZ, x_pL, x_pP, x_al, x_as, x_all, x_asl, x_alr, x_len, x_cpy, x_m2, x_m1, x_m2l, x_m1l, x_call, x_cv, x_ri, x_rz, x_rl, x_rv, zg, zset, zbef, zlong, zcat, cond_true, cond_false, List.take, List.drop, rv1, rv2, rv3, rv4, rv5, rv6, rv7, sm0, sm1, bl0, bl1, bl2, bl3, bl4, bl5, bl6, bl7, bl8, List.nil_append, List.cons_append, List.length_cons, List.length_nil, Nat.reduceBEq, Nat.reduceAdd, Nat.reduceSub, ta, tb, tn0, tn1, tn2, tn3, tn4, tn5, tn6, tn7, tn8, tn9, tn10, tn11, tn12, bX11_hear_31, bX11_hear_32]
  refine ⟨fun z => absurd z (by decide), fun _ => ⟨fun c1 => bad (fun z => Int32.not_lt.mpr z.2.1.1 c1), fun c1 => ⟨fun c2 => bad (fun z => ?_), fun c2 => ?_⟩⟩⟩
  · obtain ⟨y, rfl, hy⟩ := okI5 z.2.1
    rw [show (6 : Int32) = nI 6 from rfl, n_le (by decide) (by omega)] at c2
    omega
  have ok2 : okI k 0 5 := by
    obtain ⟨y, rfl, hy⟩ := n_nn (Int32.not_lt.mp c1)
    rw [show (6 : Int32) = nI 6 from rfl, n_le (by decide) hy] at c2
    refine ⟨Int32.not_lt.mp c1, ?_⟩
    rw [show (5 : Int32) = nI 5 from rfl, n_le hy (by decide)]
    omega
  by_cases h24 : A.O.1 < 24
  · have good : okH A r k := ⟨ok, ok2, h24⟩
    unfold s_hear at hK
    rw [if_pos good] at hK
    refine p_addO h24 hx hO.1 (fun I1 f1 s1 v1 v2 v3 v4 => ?_)
    dsimp only [x_int, x_lng, x_ild, x_lld, x_ald, x_ist, x_ast, x_lst, x_inc, x_ii, x_id, x_i, x_ll, x_ld, x_l, x_cmp, x_i2l, x_l2i, x_if, x_ic, x_dup, x_pop, x_dup2, x_gI, x_gL, x_gR, x_g1, x_g0, x_gP, x_pI, x_pZ, x_pL, x_pP, x_al, x_as, x_all, x_asl, x_alr, x_len, x_cpy, x_m2, x_m1, x_m2l, x_m1l, x_call, x_cv, x_ri, x_rz, x_rl, x_rv, zg, zset, zbef, zlong, zcat, cond_true, cond_false, List.take, List.drop, rv1, rv2, rv3, rv4, rv5, rv6, rv7, sm0, sm1, bl0, bl1, bl2, bl3, bl4, bl5, bl6, bl7, bl8, List.nil_append, List.cons_append, List.length_cons, List.length_nil, Nat.reduceBEq, Nat.reduceAdd, Nat.reduceSub, ta, tb, tn0, tn1, tn2, tn3, tn4, tn5, tn6, tn7, tn8, tn9, tn10, tn11, tn12]
    obtain ⟨a, rfl, ha⟩ := ok_of (by omega) ok
    obtain ⟨b, rfl, hb⟩ := okI5 ok2
    rw [n_cl (n := a) (by omega), n_cl (n := b) (by omega)] at hK
    have f2 : ony (fun a _ => a = 3 ∨ a = 18 ∨ a = 19 ∨ a = 20 ∨ a = 21) I I1 := f1.mono (fun a c z => by omega)
    exact hK I1 (hC.updO f2 (hO.push h24 f1 s1 ⟨ha, hb, v1, v2, v3.trans (bd_of hx), v4⟩)) (frX_of (fun a b c q => f2 a b c (by omega)))
  · exact p_addO0 h24 hO.2.1 hO.1 (bad (fun z => h24 z.2.2))
theorem r_hear {K : zQ} {I : zI} {L : zJ} {P : zP} {A : aA} {r k x : Int32} (ho : A.O.1 ≤ 24) (hx : zb x) (hR : RR A I L) (hK : ∀ (I' : zI), RR (s_hear A r k x).1 I' L → frY I I' → K [.inl (s_hear A r k x).2] (I', L, P)) : mX12_hear K [refR, .inl r, .inl k, .inl x] (I, L, P) := by
  show bX12_hear_0 K [some (.inr (.inr (12,0))), some (.inl r), some (.inl k), some (.inl x)] [] (I, L, P)
  unfold bX12_hear_0
  obtain ⟨I1, e9, hR1, f1⟩ := r_thr P hR
  dsimp only [x_ald, x_int, x_pI, zg, Nat.reduceBEq, cond_true]
  rw [e9]
  have hT := hR1.1
  have r10 := hT.r10
  have hO := hR1.2.2.2.2.2.2.2.1
  have bad : ¬ okH A r k → K [.inl (-1)] (I1, L, P) := fun z => by
    unfold s_hear at hK
    rw [if_neg z] at hK
    exact hK I1 hR1 f1.Y
  dsimp only [x_int, x_lng, x_ild, x_lld, x_ald, x_ist, x_ast, x_lst, x_inc, x_ii, x_id, x_i, x_ll, x_ld, x_l, x_cmp, x_i2l, x_l2i, x_if, x_ic, x_dup, x_pop, x_dup2, x_gI, x_gL, x_gR, x_g1, x_g0, x_gP, x_pI, x_pZ, x_pL, x_pP, x_al, x_as, x_all, x_asl, x_alr, x_len, x_cpy, x_m2, x_m1, x_m2l, x_m1l, x_call, x_cv, x_ri, x_rz, x_rl, x_rv, zg, zset, zbef, zlong, zcat, cond_true, cond_false, List.take, List.drop, rv1, rv2, rv3, rv4, rv5, rv6, rv7, sm0, sm1, bl0, bl1, bl2, bl3, bl4, bl5, bl6, bl7, bl8, List.nil_append, List.cons_append, List.length_cons, List.length_nil, Nat.reduceBEq, Nat.reduceAdd, Nat.reduceSub, ta, tb, tn0, tn1, tn2, tn3, tn4, tn5, tn6, tn7, tn8, tn9, tn10, tn11, tn12, bX12_hear_31, bX12_hear_50]
  rw [hO.1]
  refine ⟨fun c => bad (fun z => ?_), fun c => p_isRapR hT (fun ok => ?_) (fun no => ⟨fun _ => bad (fun z => no z.1), fun z => absurd rfl z⟩)⟩
  · rw [show (24 : Int32) = nI 24 from rfl, n_eq (by omega) (by decide)] at c
    have := z.2.2
    omega
  rw [show (24 : Int32) = nI 24 from rfl, n_eq (by omega) (by decide)] at c
  dsimp only [x_int, x_lng, x_ild, x_lld, x_ald, x_ist, x_ast, x_lst, x_inc, x_ii, x_id, x_i, x_ll, x_ld, x_l, x_cmp, x_i2l, x_l2i, x_if, x_ic, x_dup, x_pop, x_dup2, x_gI, x_gL, x_gR, x_g1, x_g0, x_gP, x_pI, x_pZ, x_pL, x_pP, x_al, x_as, x_all, x_asl, x_alr, x_len, x_cpy, x_m2, x_m1, x_m2l, x_m1l, x_call, x_cv, x_ri, x_rz, x_rl, x_rv, zg, zset, zbef, zlong, zcat, cond_true, cond_false, List.take, List.drop, rv1, rv2, rv3, rv4, rv5, rv6, rv7, sm0, sm1, bl0, bl1, bl2, bl3, bl4, bl5, bl6, bl7, bl8, List.nil_append, List.cons_append, List.length_cons, List.length_nil, Nat.reduceBEq, Nat.reduceAdd, Nat.reduceSub, ta, tb, tn0, tn1, tn2, tn3, tn4, tn5, tn6, tn7, tn8, tn9, tn10, tn11, tn12, bX12_hear_31, bX12_hear_50]
  refine ⟨fun z => absurd z (by decide), fun _ => p_isIn (fun ok2 => ?_) (fun no => ⟨fun _ => bad (fun z => no z.2.1), fun z => absurd rfl z⟩)⟩
  have good : okH A r k := ⟨ok, ok2, by omega⟩
  unfold s_hear at hK
  rw [if_pos good] at hK
  dsimp only [x_int, x_lng, x_ild, x_lld, x_ald, x_ist, x_ast, x_lst, x_inc, x_ii, x_id, x_i, x_ll, x_ld, x_l, x_cmp, x_i2l, x_l2i, x_if, x_ic, x_dup, x_pop, x_dup2, x_gI, x_gL, x_gR, x_g1, x_g0, x_gP, x_pI, x_pZ, x_pL, x_pP, x_al, x_as, x_all, x_asl, x_alr, x_len, x_cpy, x_m2, x_m1, x_m2l, x_m1l, x_call, x_cv, x_ri, x_rz, x_rl, x_rv, zg, zset, zbef, zlong, zcat, cond_true, cond_false, List.take, List.drop, rv1, rv2, rv3, rv4, rv5, rv6, rv7, sm0, sm1, bl0, bl1, bl2, bl3, bl4, bl5, bl6, bl7, bl8, List.nil_append, List.cons_append, List.length_cons, List.length_nil, Nat.reduceBEq, Nat.reduceAdd, Nat.reduceSub, ta, tb, tn0, tn1, tn2, tn3, tn4, tn5, tn6, tn7, tn8, tn9, tn10, tn11, tn12, bX12_hear_47]
  refine ⟨fun z => absurd z (by decide), fun _ => ⟨fun c1 => ?_, fun c1 => ?_⟩⟩
  · refine p_noted (by omega) hO.1 (fun I2 f2 s2 v1 v2 v3 => ?_)
    dsimp only [x_int, x_lng, x_ild, x_lld, x_ald, x_ist, x_ast, x_lst, x_inc, x_ii, x_id, x_i, x_ll, x_ld, x_l, x_cmp, x_i2l, x_l2i, x_if, x_ic, x_dup, x_pop, x_dup2, x_gI, x_gL, x_gR, x_g1, x_g0, x_gP, x_pI, x_pZ, x_pL, x_pP, x_al, x_as, x_all, x_asl, x_alr, x_len, x_cpy, x_m2, x_m1, x_m2l, x_m1l, x_call, x_cv, x_ri, x_rz, x_rl, x_rv, zg, zset, zbef, zlong, zcat, cond_true, cond_false, List.take, List.drop, rv1, rv2, rv3, rv4, rv5, rv6, rv7, sm0, sm1, bl0, bl1, bl2, bl3, bl4, bl5, bl6, bl7, bl8, List.nil_append, List.cons_append, List.length_cons, List.length_nil, Nat.reduceBEq, Nat.reduceAdd, Nat.reduceSub, ta, tb, tn0, tn1, tn2, tn3, tn4, tn5, tn6, tn7, tn8, tn9, tn10, tn11, tn12, bX12_hear_50]
    obtain ⟨a, rfl, ha⟩ := ok_of (by omega) ok
    obtain ⟨b, rfl, hb⟩ := okI5 ok2
    rw [n_cl (n := a) (by omega), n_cl (n := b) (by omega)] at hK
    have f3 : ony (fun a c => a = 89 ∨ (a = 12 ∧ (c = 69 ∨ c = 70))) I1 I2 := f2.mono (fun a c z => by omega)
    exact hK I2 (hR1.updO f3 (hO.push f2 s2 ⟨v1, v2, v3.trans (by rw [c1]; rfl)⟩)) (f1.Y.tr (ony_Y f3 (by omega)))
  · refine p_noted (by omega) hO.1 (fun I2 f2 s2 v1 v2 v3 => ?_)
    dsimp only [x_int, x_lng, x_ild, x_lld, x_ald, x_ist, x_ast, x_lst, x_inc, x_ii, x_id, x_i, x_ll, x_ld, x_l, x_cmp, x_i2l, x_l2i, x_if, x_ic, x_dup, x_pop, x_dup2, x_gI, x_gL, x_gR, x_g1, x_g0, x_gP, x_pI, x_pZ, x_pL, x_pP, x_al, x_as, x_all, x_asl, x_alr, x_len, x_cpy, x_m2, x_m1, x_m2l, x_m1l, x_call, x_cv, x_ri, x_rz, x_rl, x_rv, zg, zset, zbef, zlong, zcat, cond_true, cond_false, List.take, List.drop, rv1, rv2, rv3, rv4, rv5, rv6, rv7, sm0, sm1, bl0, bl1, bl2, bl3, bl4, bl5, bl6, bl7, bl8, List.nil_append, List.cons_append, List.length_cons, List.length_nil, Nat.reduceBEq, Nat.reduceAdd, Nat.reduceSub, ta, tb, tn0, tn1, tn2, tn3, tn4, tn5, tn6, tn7, tn8, tn9, tn10, tn11, tn12, bX12_hear_50]
    obtain ⟨a, rfl, ha⟩ := ok_of (by omega) ok
    obtain ⟨b, rfl, hb⟩ := okI5 ok2
    rw [n_cl (n := a) (by omega), n_cl (n := b) (by omega)] at hK
    have f3 : ony (fun a c => a = 89 ∨ (a = 12 ∧ (c = 69 ∨ c = 70))) I1 I2 := f2.mono (fun a c z => by omega)
    exact hK I2 (hR1.updO f3 (hO.push f2 s2 ⟨v1, v2, v3.trans (if_pos (decide_eq_true c1)).symm⟩)) (f1.Y.tr (ony_Y f3 (by omega)))
-- strike
abbrev okJ (A : aA) (h : Int32) : Prop := okN A.O.1 h ∧ A.O.1 < 24
def s_strike (A : aA) (h : Int32) : aA × Int32 := if okJ A h then (updO A (pushO A.O (.inl h.toNatClampNeg)) A.lm, nI A.O.1) else (A, -1)
theorem c_strike {K : zQ} {I : zI} {L : zJ} {P : zP} {A : aA} {h : Int32} (hC : RC A I P) (hK : ∀ (I' : zI), RC (s_strike A h).1 I' P → frX I I' L L → K [.inl (s_strike A h).2] (I', L, P)) : mX11_strike K [kbR, .inl h] (I, L, P) := by
  have hO : RCo A.T A.O A.lm I := by obtain ⟨t, -, -, -, -, -, hO, -⟩ := hC; exact hO
  have o24 := hO.2.1
  have bad : ¬ okJ A h → K [.inl (-1)] (I, L, P) := fun z => by
    unfold s_strike at hK
    rw [if_neg z] at hK
    exact hK I hC frX.rf
  show bX11_strike_0 K [some (.inr (.inr (11,0))), some (.inl h)] [] (I, L, P)
  unfold bX11_strike_0
  dsimp only [x_int, x_lng, x_ild, x_lld, x_ald, x_ist, x_ast, x_lst, x_inc, x_ii, x_id, x_i, x_ll, x_ld, x_l, x_cmp, x_i2l, x_l2i, x_if, x_ic, x_dup, x_pop, x_dup2, x_gI, x_gL, x_gR, x_g1, x_g0, x_gP, x_pI, x_pZ, x_pL, x_pP, x_al, x_as, x_all, x_asl, x_alr, x_len, x_cpy, x_m2, x_m1, x_m2l, x_m1l, x_call, x_cv, x_ri, x_rz, x_rl, x_rv, zg, zset, zbef, zlong, zcat, cond_true, cond_false, List.take, List.drop, rv1, rv2, rv3, rv4, rv5, rv6, rv7, sm0, sm1, bl0, bl1, bl2, bl3, bl4, bl5, bl6, bl7, bl8, List.nil_append, List.cons_append, List.length_cons, List.length_nil, Nat.reduceBEq, Nat.reduceAdd, Nat.reduceSub, ta, tb, tn0, tn1, tn2, tn3, tn4, tn5, tn6, tn7, tn8, tn9, tn10, tn11, tn12, bX11_strike_26, bX11_strike_27]
  rw [hO.1]
  refine ⟨fun c1 => bad (fun z => Int32.not_lt.mpr z.1.1 c1), fun c1 => ⟨fun c2 => bad (fun z => Int32.not_lt.mpr c2 z.1.2), fun c2 => ?_⟩⟩
  have ok : okN A.O.1 h := ⟨Int32.not_lt.mp c1, Int32.not_le.mp c2⟩
  obtain ⟨a, rfl, ha⟩ := ok_of (by omega) ok
  show bX3_addStrike_0 _ [some (.inr (.inr (3, 0))), some (.inl (nI a)), none] [] (I, L, P)
  unfold bX3_addStrike_0
  dsimp only [x_int, x_lng, x_ild, x_lld, x_ald, x_ist, x_ast, x_lst, x_inc, x_ii, x_id, x_i, x_ll, x_ld, x_l, x_cmp, x_i2l, x_l2i, x_if, x_ic, x_dup, x_pop, x_dup2, x_gI, x_gL, x_gR, x_g1, x_g0, x_gP, x_pI, x_pZ, x_pL, x_pP, x_al, x_as, x_all, x_asl, x_alr, x_len, x_cpy, x_m2, x_m1, x_m2l, x_m1l, x_call, x_cv, x_ri, x_rz, x_rl, x_rv, zg, zset, zbef, zlong, zcat, cond_true, cond_false, List.take, List.drop, rv1, rv2, rv3, rv4, rv5, rv6, rv7, sm0, sm1, bl0, bl1, bl2, bl3, bl4, bl5, bl6, bl7, bl8, List.nil_append, List.cons_append, List.length_cons, List.length_nil, Nat.reduceBEq, Nat.reduceAdd, Nat.reduceSub, ta, tb, tn0, tn1, tn2, tn3, tn4, tn5, tn6, tn7, tn8, tn9, tn10, tn11, tn12]
  by_cases h24 : A.O.1 < 24
  · have good : okJ A (nI a) := ⟨ok, h24⟩
    unfold s_strike at hK
    rw [if_pos good, n_cl (n := a) (by omega)] at hK
    refine p_addO h24 (Or.inl rfl) hO.1 (fun I1 f1 s1 v1 v2 v3 v4 => ?_)
    dsimp only [x_int, x_lng, x_ild, x_lld, x_ald, x_ist, x_ast, x_lst, x_inc, x_ii, x_id, x_i, x_ll, x_ld, x_l, x_cmp, x_i2l, x_l2i, x_if, x_ic, x_dup, x_pop, x_dup2, x_gI, x_gL, x_gR, x_g1, x_g0, x_gP, x_pI, x_pZ, x_pL, x_pP, x_al, x_as, x_all, x_asl, x_alr, x_len, x_cpy, x_m2, x_m1, x_m2l, x_m1l, x_call, x_cv, x_ri, x_rz, x_rl, x_rv, zg, zset, zbef, zlong, zcat, cond_true, cond_false, List.take, List.drop, rv1, rv2, rv3, rv4, rv5, rv6, rv7, sm0, sm1, bl0, bl1, bl2, bl3, bl4, bl5, bl6, bl7, bl8, List.nil_append, List.cons_append, List.length_cons, List.length_nil, Nat.reduceBEq, Nat.reduceAdd, Nat.reduceSub, ta, tb, tn0, tn1, tn2, tn3, tn4, tn5, tn6, tn7, tn8, tn9, tn10, tn11, tn12, zk_21, zl_21, bX3_addStrike_20]
    rw [n_cl (n := A.O.1) (by omega)]
    refine ⟨fun z => ?_, fun _ => ⟨n_zin h24 (by decide), ?_⟩⟩
    · have h0 := congrArg Int32.toInt z
      rw [n_toInt (by omega)] at h0
      have : (-1 : Int32).toInt = -1 := rfl
      omega
    · obtain ⟨I2, e2, w2, f2⟩ := zsI_ex I1 L P 21 0 A.O.1 (nI a)
      rw [e2]
      have f3 : ony (fun a c => (a = 3 ∧ c = 5) ∨ ((a = 18 ∨ a = 19 ∨ a = 20 ∨ a = 21) ∧ c = A.O.1)) I I2 := fun a b c q => (f2 a b c (fun z => q ⟨z.2.1, by omega⟩)).trans (f1 a b c q)
      have f4 : ony (fun a _ => a = 3 ∨ a = 18 ∨ a = 19 ∨ a = 20 ∨ a = 21) I I2 := f3.mono (fun a c z => by omega)
      exact hK I2 (hC.updO f4 (hO.push h24 f3 ((f2 _ _ _ (by omega)).trans s1) ⟨ha, w2⟩)) (frX_of (fun a b c q => f4 a b c (by omega)))
  · refine p_addO0 h24 hO.2.1 hO.1 ?_
    dsimp only [x_int, x_lng, x_ild, x_lld, x_ald, x_ist, x_ast, x_lst, x_inc, x_ii, x_id, x_i, x_ll, x_ld, x_l, x_cmp, x_i2l, x_l2i, x_if, x_ic, x_dup, x_pop, x_dup2, x_gI, x_gL, x_gR, x_g1, x_g0, x_gP, x_pI, x_pZ, x_pL, x_pP, x_al, x_as, x_all, x_asl, x_alr, x_len, x_cpy, x_m2, x_m1, x_m2l, x_m1l, x_call, x_cv, x_ri, x_rz, x_rl, x_rv, zg, zset, zbef, zlong, zcat, cond_true, cond_false, List.take, List.drop, rv1, rv2, rv3, rv4, rv5, rv6, rv7, sm0, sm1, bl0, bl1, bl2, bl3, bl4, bl5, bl6, bl7, bl8, List.nil_append, List.cons_append, List.length_cons, List.length_nil, Nat.reduceBEq, Nat.reduceAdd, Nat.reduceSub, ta, tb, tn0, tn1, tn2, tn3, tn4, tn5, tn6, tn7, tn8, tn9, tn10, tn11, tn12, bX3_addStrike_20]
    exact ⟨fun _ => bad (fun z => h24 z.2), fun z => absurd rfl z⟩
theorem r_strike {K : zQ} {I : zI} {L : zJ} {P : zP} {A : aA} {h : Int32} (ho : A.O.1 ≤ 24) (hR : RR A I L) (hK : ∀ (I' : zI), RR (s_strike A h).1 I' L → frY I I' → K [.inl (s_strike A h).2] (I', L, P)) : mX12_strike K [refR, .inl h] (I, L, P) := by
  show bX12_strike_0 K [some (.inr (.inr (12,0))), some (.inl h)] [] (I, L, P)
  unfold bX12_strike_0
  obtain ⟨I1, e9, hR1, f1⟩ := r_thr P hR
  dsimp only [x_ald, x_int, x_pI, zg, Nat.reduceBEq, cond_true]
  rw [e9]
  have hO := hR1.2.2.2.2.2.2.2.1
  have bad : ¬ okJ A h → K [.inl (-1)] (I1, L, P) := fun z => by
    unfold s_strike at hK
    rw [if_neg z] at hK
    exact hK I1 hR1 f1.Y
  dsimp only [x_int, x_lng, x_ild, x_lld, x_ald, x_ist, x_ast, x_lst, x_inc, x_ii, x_id, x_i, x_ll, x_ld, x_l, x_cmp, x_i2l, x_l2i, x_if, x_ic, x_dup, x_pop, x_dup2, x_gI, x_gL, x_gR, x_g1, x_g0, x_gP, x_pI, x_pZ, x_pL, x_pP, x_al, x_as, x_all, x_asl, x_alr, x_len, x_cpy, x_m2, x_m1, x_m2l, x_m1l, x_call, x_cv, x_ri, x_rz, x_rl, x_rv, zg, zset, zbef, zlong, zcat, cond_true, cond_false, List.take, List.drop, rv1, rv2, rv3, rv4, rv5, rv6, rv7, sm0, sm1, bl0, bl1, bl2, bl3, bl4, bl5, bl6, bl7, bl8, List.nil_append, List.cons_append, List.length_cons, List.length_nil, Nat.reduceBEq, Nat.reduceAdd, Nat.reduceSub, ta, tb, tn0, tn1, tn2, tn3, tn4, tn5, tn6, tn7, tn8, tn9, tn10, tn11, tn12, bX12_strike_26, bX12_strike_37]
  rw [hO.1]
  refine ⟨fun c => bad (fun z => ?_), fun c => ⟨fun c1 => bad (fun z => Int32.not_lt.mpr z.1.1 c1), fun c1 => ⟨fun c2 => ?_, fun c2 => bad (fun z => c2 z.1.2)⟩⟩⟩
  · rw [show (24 : Int32) = nI 24 from rfl, n_eq (by omega) (by decide)] at c
    have := z.2
    omega
  rw [show (24 : Int32) = nI 24 from rfl, n_eq (by omega) (by decide)] at c
  have good : okJ A h := ⟨⟨Int32.not_lt.mp c1, c2⟩, by omega⟩
  unfold s_strike at hK
  rw [if_pos good] at hK
  refine p_noted (by omega) hO.1 (fun I2 f2 s2 v1 v2 v3 => ?_)
  dsimp only [x_int, x_lng, x_ild, x_lld, x_ald, x_ist, x_ast, x_lst, x_inc, x_ii, x_id, x_i, x_ll, x_ld, x_l, x_cmp, x_i2l, x_l2i, x_if, x_ic, x_dup, x_pop, x_dup2, x_gI, x_gL, x_gR, x_g1, x_g0, x_gP, x_pI, x_pZ, x_pL, x_pP, x_al, x_as, x_all, x_asl, x_alr, x_len, x_cpy, x_m2, x_m1, x_m2l, x_m1l, x_call, x_cv, x_ri, x_rz, x_rl, x_rv, zg, zset, zbef, zlong, zcat, cond_true, cond_false, List.take, List.drop, rv1, rv2, rv3, rv4, rv5, rv6, rv7, sm0, sm1, bl0, bl1, bl2, bl3, bl4, bl5, bl6, bl7, bl8, List.nil_append, List.cons_append, List.length_cons, List.length_nil, Nat.reduceBEq, Nat.reduceAdd, Nat.reduceSub, ta, tb, tn0, tn1, tn2, tn3, tn4, tn5, tn6, tn7, tn8, tn9, tn10, tn11, tn12, bX12_strike_37]
  obtain ⟨a, rfl, ha⟩ := ok_of (by omega) good.1
  rw [n_cl (n := a) (by omega)] at hK
  have f3 : ony (fun a c => a = 89 ∨ (a = 12 ∧ (c = 69 ∨ c = 70))) I1 I2 := f2.mono (fun a c z => by omega)
  exact hK I2 (hR1.updO f3 (hO.push f2 s2 ⟨v1, v2⟩)) (f1.Y.tr (ony_Y f3 (by omega)))
-- known
def s_known (A : aA) (n : Int32) : aA × Int32 := if okI n (-1) (nI A.O.1) then (updO A A.O n, 1) else (A, 0)
theorem c_known {K : zQ} {I : zI} {L : zJ} {P : zP} {A : aA} {n : Int32} (hC : RC A I P) (hK : ∀ (I' : zI), RC (s_known A n).1 I' P → frX I I' L L → K [.inl (s_known A n).2] (I', L, P)) : mX11_known K [kbR, .inl n] (I, L, P) := by
  have hO : RCo A.T A.O A.lm I := by obtain ⟨t, -, -, -, -, -, hO, -⟩ := hC; exact hO
  have o24 := hO.2.1
  have bad : ¬ okI n (-1) (nI A.O.1) → zb 0 ∧ K [.inl 0] (I, L, P) := fun z => by
    unfold s_known at hK
    rw [if_neg z] at hK
    exact ⟨Or.inl rfl, hK I hC frX.rf⟩
  show bX11_known_0 K [some (.inr (.inr (11,0))), some (.inl n)] [] (I, L, P)
  unfold bX11_known_0
  dsimp only [x_int, x_lng, x_ild, x_lld, x_ald, x_ist, x_ast, x_lst, x_inc, x_ii, x_id, x_i, x_ll, x_ld, x_l, x_cmp, x_i2l, x_l2i, x_if, x_ic, x_dup, x_pop, x_dup2, x_gI, x_gL, x_gR, x_g1, x_g0, x_gP, x_pI, x_pZ, x_pL, x_pP, x_al, x_as, x_all, x_asl, x_alr, x_len, x_cpy, x_m2, x_m1, x_m2l, x_m1l, x_call, x_cv, x_ri, x_rz, x_rl, x_rv, zg, zset, zbef, zlong, zcat, cond_true, cond_false, List.take, List.drop, rv1, rv2, rv3, rv4, rv5, rv6, rv7, sm0, sm1, bl0, bl1, bl2, bl3, bl4, bl5, bl6, bl7, bl8, List.nil_append, List.cons_append, List.length_cons, List.length_nil, Nat.reduceBEq, Nat.reduceAdd, Nat.reduceSub, ta, tb, tn0, tn1, tn2, tn3, tn4, tn5, tn6, tn7, tn8, tn9, tn10, tn11, tn12, bX11_known_16]
  rw [hO.1]
  refine ⟨fun c1 => bad (fun z => Int32.not_lt.mpr z.1 c1), fun c1 => ⟨fun c2 => ⟨Or.inr rfl, ?_⟩, fun c2 => bad (fun z => c2 z.2)⟩⟩
  have good : okI n (-1) (nI A.O.1) := ⟨Int32.not_lt.mp c1, c2⟩
  unfold s_known at hK
  rw [if_pos good] at hK
  obtain ⟨I1, e1, v1, f1⟩ := zsI_ex I L P 3 0 6 n
  rw [e1]
  have f4 : ony (fun a _ => a = 3 ∨ a = 18 ∨ a = 19 ∨ a = 20 ∨ a = 21) I I1 := fun a b c q => f1 a b c (fun z => q ⟨z.2.1, by omega⟩)
  refine hK I1 (hC.updO f4 ⟨(f1 _ _ _ (by decide)).trans hO.1, o24, v1, ?_, fun i hi => ?_⟩) (frX_of (fun a b c q => f4 a b c (by omega)))
  · by_cases z : 0 ≤ n
    · obtain ⟨y, rfl, hy⟩ := n_nn z
      rw [n_le hy (by omega)] at c2
      exact Or.inr ⟨y, c2, rfl⟩
    · left
      have h1 := Int32.le_iff_toInt_le.mp good.1
      have h2 : ¬ (0 : Int32).toInt ≤ n.toInt := fun q => z (Int32.le_iff_toInt_le.mpr q)
      have e0 : (0 : Int32).toInt = 0 := rfl
      have e1 : (-1 : Int32).toInt = -1 := rfl
      rw [e0] at h2
      rw [e1] at h1
      apply Int32.toInt_inj.mp
      rw [e1]
      omega
  · have := hO.2.2.2.2 i hi
    rw [f1 18 0 _ (by omega), f1 19 0 _ (by omega), f1 20 0 _ (by omega), f1 21 0 _ (by omega)]
    exact this
theorem r_known {K : zQ} {I : zI} {L : zJ} {P : zP} {A : aA} {n : Int32} (hR : RR A I L) (hK : ∀ (I' : zI), RR (s_known A n).1 I' L → frY I I' → K [.inl (s_known A n).2] (I', L, P)) : mX12_known K [refR, .inl n] (I, L, P) := by
  show bX12_known_0 K [some (.inr (.inr (12,0))), some (.inl n)] [] (I, L, P)
  unfold bX12_known_0
  obtain ⟨I1, e9, hR1, f1⟩ := r_thr P hR
  dsimp only [x_ald, x_int, x_pI, zg, Nat.reduceBEq, cond_true]
  rw [e9]
  have hO := hR1.2.2.2.2.2.2.2.1
  unfold s_known at hK
  dsimp only [x_int, x_lng, x_ild, x_lld, x_ald, x_ist, x_ast, x_lst, x_inc, x_ii, x_id, x_i, x_ll, x_ld, x_l, x_cmp, x_i2l, x_l2i, x_if, x_ic, x_dup, x_pop, x_dup2, x_gI, x_gL, x_gR, x_g1, x_g0, x_gP, x_pI, x_pZ, x_pL, x_pP, x_al, x_as, x_all, x_asl, x_alr, x_len, x_cpy, x_m2, x_m1, x_m2l, x_m1l, x_call, x_cv, x_ri, x_rz, x_rl, x_rv, zg, zset, zbef, zlong, zcat, cond_true, cond_false, List.take, List.drop, rv1, rv2, rv3, rv4, rv5, rv6, rv7, sm0, sm1, bl0, bl1, bl2, bl3, bl4, bl5, bl6, bl7, bl8, List.nil_append, List.cons_append, List.length_cons, List.length_nil, Nat.reduceBEq, Nat.reduceAdd, Nat.reduceSub, ta, tb, tn0, tn1, tn2, tn3, tn4, tn5, tn6, tn7, tn8, tn9, tn10, tn11, tn12]
  rw [hO.1]
  refine p_isIn (fun ok => ?_) (fun no => ⟨fun _ => ⟨Or.inl rfl, by rw [if_neg no] at hK; exact hK I1 hR1 f1.Y⟩, fun z => absurd rfl z⟩)
  rw [if_pos ok] at hK
  dsimp only [x_int, x_lng, x_ild, x_lld, x_ald, x_ist, x_ast, x_lst, x_inc, x_ii, x_id, x_i, x_ll, x_ld, x_l, x_cmp, x_i2l, x_l2i, x_if, x_ic, x_dup, x_pop, x_dup2, x_gI, x_gL, x_gR, x_g1, x_g0, x_gP, x_pI, x_pZ, x_pL, x_pP, x_al, x_as, x_all, x_asl, x_alr, x_len, x_cpy, x_m2, x_m1, x_m2l, x_m1l, x_call, x_cv, x_ri, x_rz, x_rl, x_rv, zg, zset, zbef, zlong, zcat, cond_true, cond_false, List.take, List.drop, rv1, rv2, rv3, rv4, rv5, rv6, rv7, sm0, sm1, bl0, bl1, bl2, bl3, bl4, bl5, bl6, bl7, bl8, List.nil_append, List.cons_append, List.length_cons, List.length_nil, Nat.reduceBEq, Nat.reduceAdd, Nat.reduceSub, ta, tb, tn0, tn1, tn2, tn3, tn4, tn5, tn6, tn7, tn8, tn9, tn10, tn11, tn12]
  refine ⟨fun z => absurd z (by decide), fun _ => ⟨Or.inr rfl, ?_⟩⟩
  obtain ⟨I2, e2, v2, f2⟩ := zsI_ex I1 L P 12 0 70 n
  rw [e2]
  have f3 : ony (fun a c => a = 89 ∨ (a = 12 ∧ (c = 69 ∨ c = 70))) I1 I2 := fun a b c q => f2 a b c (fun z => q ⟨z.2.1, by omega⟩)
  refine hK I2 (hR1.updO f3 ⟨(f2 _ _ _ (by decide)).trans hO.1, v2, fun i hi => ?_⟩) (f1.Y.tr (ony_Y f3 (by omega)))
  have := hO.2.2 i hi
  rw [f2 89 0 _ (by omega), f2 89 0 _ (by omega), f2 89 0 _ (by omega)]
  exact this
