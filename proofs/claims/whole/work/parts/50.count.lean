-- count
def kwn (A : aA) : Int32 := if 0 ≤ A.lm then A.lm else nI A.O.1
def v_count (A : aA) (w : Int32) : Int32 := if w = 0 then nI (A.T.1 0) else if w = 1 then nI (A.T.1 1) else if w = 2 then nI (A.T.1 2) else if w = 3 then A.T.2.1 13 0 else if w = 4 then A.S 9 0 else if w = 5 then nI (aMany A.T A.S 1) else if w = 6 then nI (aMany A.T A.S 2) else if w = 7 then nI (aWrong A.T A.S) else if w = 8 then nI (aFaded A.T A.S) else if w = 9 then nI A.O.1 else if w = 10 then kwn A else if w = 11 then nI A.U.1 else -1
theorem p_manyKnown {K : zQ} {I : zI} {L : zJ} {P : zP} {A : aA} (hO : RCo A.T A.O A.lm I) (hK : K [.inl (kwn A)] (I, L, P)) : mX3_manyKnown K [.inr (.inr (3, 0))] (I, L, P) := by
  unfold kwn at hK
  show bX3_manyKnown_0 K [some (.inr (.inr (3,0)))] [] (I, L, P)
  unfold bX3_manyKnown_0
  dsimp only [x_int, x_lng, x_ild, x_lld, x_ald, x_ist, x_ast, x_lst, x_inc, x_ii, x_id, x_i, x_ll, x_ld, x_l, x_cmp, x_i2l, x_l2i, x_if, x_ic, x_dup, x_pop, x_dup2, x_gI, x_gL, x_gR, x_g1, x_g0, x_gP, x_pI, x_pZ, x_pL, x_pP, x_al, x_as, x_all, x_asl, x_alr, x_len, x_cpy, x_m2, x_m1, x_m2l, x_m1l, x_call, x_cv, x_ri, x_rz, x_rl, x_rv, zg, zset, zbef, zlong, zcat, cond_true, cond_false, List.take, List.drop, rv1, rv2, rv3, rv4, rv5, rv6, rv7, sm0, sm1, bl0, bl1, bl2, bl3, bl4, bl5, bl6, bl7, bl8, List.nil_append, List.cons_append, List.length_cons, List.length_nil, Nat.reduceBEq, Nat.reduceAdd, Nat.reduceSub, ta, tb, tn0, tn1, tn2, tn3, tn4, tn5, tn6, tn7, tn8, tn9, tn10, tn11, tn12, bX3_manyKnown_18]
  rw [hO.1, hO.2.2.1]
  exact ⟨fun c => by rw [if_pos c] at hK; exact hK, fun c => by rw [if_neg c] at hK; exact hK⟩
theorem p_knownBy {K : zQ} {I : zI} {L : zJ} {P : zP} {A : aA} (hO : RRo A.O A.lm I) (hK : K [.inl (kwn A)] (I, L, P)) : mX12_knownBy K [refR] (I, L, P) := by
  unfold kwn at hK
  show bX12_knownBy_0 K [some (.inr (.inr (12,0)))] [] (I, L, P)
  unfold bX12_knownBy_0
  dsimp only [x_int, x_lng, x_ild, x_lld, x_ald, x_ist, x_ast, x_lst, x_inc, x_ii, x_id, x_i, x_ll, x_ld, x_l, x_cmp, x_i2l, x_l2i, x_if, x_ic, x_dup, x_pop, x_dup2, x_gI, x_gL, x_gR, x_g1, x_g0, x_gP, x_pI, x_pZ, x_pL, x_pP, x_al, x_as, x_all, x_asl, x_alr, x_len, x_cpy, x_m2, x_m1, x_m2l, x_m1l, x_call, x_cv, x_ri, x_rz, x_rl, x_rv, zg, zset, zbef, zlong, zcat, cond_true, cond_false, List.take, List.drop, rv1, rv2, rv3, rv4, rv5, rv6, rv7, sm0, sm1, bl0, bl1, bl2, bl3, bl4, bl5, bl6, bl7, bl8, List.nil_append, List.cons_append, List.length_cons, List.length_nil, Nat.reduceBEq, Nat.reduceAdd, Nat.reduceSub, ta, tb, tn0, tn1, tn2, tn3, tn4, tn5, tn6, tn7, tn8, tn9, tn10, tn11, tn12, bX12_knownBy_18]
  rw [hO.1, hO.2.1]
  exact ⟨fun c => by rw [if_pos c] at hK; exact hK, fun c => by rw [if_neg c] at hK; exact hK⟩
theorem c_count {K : zQ} {I : zI} {L : zJ} {P : zP} {A : aA} {w : Int32} (hC : RC A I P) (hk : K [.inl (v_count A w)] (I, L, P)) : mX11_count K [kbR, .inl w] (I, L, P) := by
  obtain ⟨t, hT, h11, h8, hS⟩ := hC.b
  obtain ⟨-, -, -, -, -, hD, hO, -⟩ := hC
  unfold v_count at hk
  show bX11_count_0 K [some (.inr (.inr (11,0))), some (.inl w)] [] (I, L, P)
  unfold bX11_count_0
  dsimp only [x_int, x_lng, x_ild, x_lld, x_ald, x_ist, x_ast, x_lst, x_inc, x_ii, x_id, x_i, x_ll, x_ld, x_l, x_cmp, x_i2l, x_l2i, x_if, x_ic, x_dup, x_pop, x_dup2, x_gI, x_gL, x_gR, x_g1, x_g0, x_gP, x_pI, x_pZ, x_pL, x_pP, x_al, x_as, x_all, x_asl, x_alr, x_len, x_cpy, x_m2, x_m1, x_m2l, x_m1l, x_call, x_cv, x_ri, x_rz, x_rl, x_rv, zg, zset, zbef, zlong, zcat, cond_true, cond_false, List.take, List.drop, rv1, rv2, rv3, rv4, rv5, rv6, rv7, sm0, sm1, bl0, bl1, bl2, bl3, bl4, bl5, bl6, bl7, bl8, List.nil_append, List.cons_append, List.length_cons, List.length_nil, Nat.reduceBEq, Nat.reduceAdd, Nat.reduceSub, ta, tb, tn0, tn1, tn2, tn3, tn4, tn5, tn6, tn7, tn8, tn9, tn10, tn11, tn12, g_sw]
  rw [h11, hT.2.1.1, hT.2.1.2.1, hT.2.1.2.2, hT.2.2.2.2.2.2.1.2.2, hS.2.2.2.1, hS.2.2.2.2.2.2.2, hO.1, hD.1]
  refine ⟨fun e => ⟨hT.1, ?_⟩, fun e0 => ⟨fun e => ⟨hT.1, ?_⟩, fun e1 => ⟨fun e => ⟨hT.1, ?_⟩, fun e2 => ⟨fun e => ⟨hT.1, ?_⟩, fun e3 => ⟨fun e => ?_, fun e4 => ⟨fun e => p_manyOf h8 hT hS ?_, fun e5 => ⟨fun e => p_manyOf h8 hT hS ?_, fun e6 => ⟨fun e => p_manyWrong h8 hT hS ?_, fun e7 => ⟨fun e => p_bitCount ?_, fun e8 => ⟨fun e => ?_, fun e9 => ⟨fun e => p_manyKnown hO ?_, fun e10 => ⟨fun e => ?_, fun e11 => ?_⟩⟩⟩⟩⟩⟩⟩⟩⟩⟩⟩⟩
  · rw [if_pos e] at hk; exact hk
  · rw [if_neg e0, if_pos e] at hk; exact hk
  · rw [if_neg e0, if_neg e1, if_pos e] at hk; exact hk
  · rw [if_neg e0, if_neg e1, if_neg e2, if_pos e] at hk; exact hk
  · rw [if_neg e0, if_neg e1, if_neg e2, if_neg e3, if_pos e] at hk; exact hk
  · dsimp only [x_int, x_lng, x_ild, x_lld, x_ald, x_ist, x_ast, x_lst, x_inc, x_ii, x_id, x_i, x_ll, x_ld, x_l, x_cmp, x_i2l, x_l2i, x_if, x_ic, x_dup, x_pop, x_dup2, x_gI, x_gL, x_gR, x_g1, x_g0, x_gP, x_pI, x_pZ, x_pL, x_pP, x_al, x_as, x_all, x_asl, x_alr, x_len, x_cpy, x_m2, x_m1, x_m2l, x_m1l, x_call, x_cv, x_ri, x_rz, x_rl, x_rv, zg, zset, zbef, zlong, zcat, cond_true, cond_false, List.take, List.drop, rv1, rv2, rv3, rv4, rv5, rv6, rv7, sm0, sm1, bl0, bl1, bl2, bl3, bl4, bl5, bl6, bl7, bl8, List.nil_append, List.cons_append, List.length_cons, List.length_nil, Nat.reduceBEq, Nat.reduceAdd, Nat.reduceSub, ta, tb, tn0, tn1, tn2, tn3, tn4, tn5, tn6, tn7, tn8, tn9, tn10, tn11, tn12]
    rw [if_neg e0, if_neg e1, if_neg e2, if_neg e3, if_neg e4, if_pos e] at hk; exact hk
  · dsimp only [x_int, x_lng, x_ild, x_lld, x_ald, x_ist, x_ast, x_lst, x_inc, x_ii, x_id, x_i, x_ll, x_ld, x_l, x_cmp, x_i2l, x_l2i, x_if, x_ic, x_dup, x_pop, x_dup2, x_gI, x_gL, x_gR, x_g1, x_g0, x_gP, x_pI, x_pZ, x_pL, x_pP, x_al, x_as, x_all, x_asl, x_alr, x_len, x_cpy, x_m2, x_m1, x_m2l, x_m1l, x_call, x_cv, x_ri, x_rz, x_rl, x_rv, zg, zset, zbef, zlong, zcat, cond_true, cond_false, List.take, List.drop, rv1, rv2, rv3, rv4, rv5, rv6, rv7, sm0, sm1, bl0, bl1, bl2, bl3, bl4, bl5, bl6, bl7, bl8, List.nil_append, List.cons_append, List.length_cons, List.length_nil, Nat.reduceBEq, Nat.reduceAdd, Nat.reduceSub, ta, tb, tn0, tn1, tn2, tn3, tn4, tn5, tn6, tn7, tn8, tn9, tn10, tn11, tn12]
    rw [if_neg e0, if_neg e1, if_neg e2, if_neg e3, if_neg e4, if_neg e5, if_pos e] at hk; exact hk
  · dsimp only [x_int, x_lng, x_ild, x_lld, x_ald, x_ist, x_ast, x_lst, x_inc, x_ii, x_id, x_i, x_ll, x_ld, x_l, x_cmp, x_i2l, x_l2i, x_if, x_ic, x_dup, x_pop, x_dup2, x_gI, x_gL, x_gR, x_g1, x_g0, x_gP, x_pI, x_pZ, x_pL, x_pP, x_al, x_as, x_all, x_asl, x_alr, x_len, x_cpy, x_m2, x_m1, x_m2l, x_m1l, x_call, x_cv, x_ri, x_rz, x_rl, x_rv, zg, zset, zbef, zlong, zcat, cond_true, cond_false, List.take, List.drop, rv1, rv2, rv3, rv4, rv5, rv6, rv7, sm0, sm1, bl0, bl1, bl2, bl3, bl4, bl5, bl6, bl7, bl8, List.nil_append, List.cons_append, List.length_cons, List.length_nil, Nat.reduceBEq, Nat.reduceAdd, Nat.reduceSub, ta, tb, tn0, tn1, tn2, tn3, tn4, tn5, tn6, tn7, tn8, tn9, tn10, tn11, tn12]
    rw [if_neg e0, if_neg e1, if_neg e2, if_neg e3, if_neg e4, if_neg e5, if_neg e6, if_pos e] at hk; exact hk
  · dsimp only [x_int, x_lng, x_ild, x_lld, x_ald, x_ist, x_ast, x_lst, x_inc, x_ii, x_id, x_i, x_ll, x_ld, x_l, x_cmp, x_i2l, x_l2i, x_if, x_ic, x_dup, x_pop, x_dup2, x_gI, x_gL, x_gR, x_g1, x_g0, x_gP, x_pI, x_pZ, x_pL, x_pP, x_al, x_as, x_all, x_asl, x_alr, x_len, x_cpy, x_m2, x_m1, x_m2l, x_m1l, x_call, x_cv, x_ri, x_rz, x_rl, x_rv, zg, zset, zbef, zlong, zcat, cond_true, cond_false, List.take, List.drop, rv1, rv2, rv3, rv4, rv5, rv6, rv7, sm0, sm1, bl0, bl1, bl2, bl3, bl4, bl5, bl6, bl7, bl8, List.nil_append, List.cons_append, List.length_cons, List.length_nil, Nat.reduceBEq, Nat.reduceAdd, Nat.reduceSub, ta, tb, tn0, tn1, tn2, tn3, tn4, tn5, tn6, tn7, tn8, tn9, tn10, tn11, tn12]
    rw [bsB_sum, bsB_pop _ hT.r10]
    rw [if_neg e0, if_neg e1, if_neg e2, if_neg e3, if_neg e4, if_neg e5, if_neg e6, if_neg e7, if_pos e] at hk; exact hk
  · rw [if_neg e0, if_neg e1, if_neg e2, if_neg e3, if_neg e4, if_neg e5, if_neg e6, if_neg e7, if_neg e8, if_pos e] at hk; exact hk
  · dsimp only [x_int, x_lng, x_ild, x_lld, x_ald, x_ist, x_ast, x_lst, x_inc, x_ii, x_id, x_i, x_ll, x_ld, x_l, x_cmp, x_i2l, x_l2i, x_if, x_ic, x_dup, x_pop, x_dup2, x_gI, x_gL, x_gR, x_g1, x_g0, x_gP, x_pI, x_pZ, x_pL, x_pP, x_al, x_as, x_all, x_asl, x_alr, x_len, x_cpy, x_m2, x_m1, x_m2l, x_m1l, x_call, x_cv, x_ri, x_rz, x_rl, x_rv, zg, zset, zbef, zlong, zcat, cond_true, cond_false, List.take, List.drop, rv1, rv2, rv3, rv4, rv5, rv6, rv7, sm0, sm1, bl0, bl1, bl2, bl3, bl4, bl5, bl6, bl7, bl8, List.nil_append, List.cons_append, List.length_cons, List.length_nil, Nat.reduceBEq, Nat.reduceAdd, Nat.reduceSub, ta, tb, tn0, tn1, tn2, tn3, tn4, tn5, tn6, tn7, tn8, tn9, tn10, tn11, tn12]
    rw [if_neg e0, if_neg e1, if_neg e2, if_neg e3, if_neg e4, if_neg e5, if_neg e6, if_neg e7, if_neg e8, if_neg e9, if_pos e] at hk; exact hk
  · rw [if_neg e0, if_neg e1, if_neg e2, if_neg e3, if_neg e4, if_neg e5, if_neg e6, if_neg e7, if_neg e8, if_neg e9, if_neg e10, if_pos e] at hk; exact hk
  · rw [if_neg e0, if_neg e1, if_neg e2, if_neg e3, if_neg e4, if_neg e5, if_neg e6, if_neg e7, if_neg e8, if_neg e9, if_neg e10, if_neg e11] at hk; exact hk
theorem r_count {K : zQ} {I : zI} {L : zJ} {P : zP} {A : aA} {w : Int32} (wQ : WQ A.T A.S) (hR : RR A I L) (hK : ∀ (I' : zI) (L' : zJ), frR I I' → zeLr L L' → K [.inl (v_count A w)] (I', L', P)) : mX12_count K [refR, .inl w] (I, L, P) := by
  show bX12_count_0 K [some (.inr (.inr (12,0))), some (.inl w)] [] (I, L, P)
  unfold bX12_count_0
  obtain ⟨I1, e9, hR1, f1⟩ := r_thr P hR
  dsimp only [x_ald, x_int, x_pI, zg, Nat.reduceBEq, cond_true]
  rw [e9]
  have hk := hK I1 L f1 zeLr.rf
  unfold v_count at hk
  have hT := hR1.1
  have hS := hR1.2.1
  have hU := hR1.2.2.2.2.2.2.1
  have hO := hR1.2.2.2.2.2.2.2.1
  dsimp only [x_int, x_lng, x_ild, x_lld, x_ald, x_ist, x_ast, x_lst, x_inc, x_ii, x_id, x_i, x_ll, x_ld, x_l, x_cmp, x_i2l, x_l2i, x_if, x_ic, x_dup, x_pop, x_dup2, x_gI, x_gL, x_gR, x_g1, x_g0, x_gP, x_pI, x_pZ, x_pL, x_pP, x_al, x_as, x_all, x_asl, x_alr, x_len, x_cpy, x_m2, x_m1, x_m2l, x_m1l, x_call, x_cv, x_ri, x_rz, x_rl, x_rv, zg, zset, zbef, zlong, zcat, cond_true, cond_false, List.take, List.drop, rv1, rv2, rv3, rv4, rv5, rv6, rv7, sm0, sm1, bl0, bl1, bl2, bl3, bl4, bl5, bl6, bl7, bl8, List.nil_append, List.cons_append, List.length_cons, List.length_nil, Nat.reduceBEq, Nat.reduceAdd, Nat.reduceSub, ta, tb, tn0, tn1, tn2, tn3, tn4, tn5, tn6, tn7, tn8, tn9, tn10, tn11, tn12, g_sw, zk_86, zl_86]
  rw [hT.1.1, hT.1.2.1, hT.1.2.2, hT.2.2.2.2.2.1.2.2, hS.2.2.2.1, hO.1, hU.1]
  refine ⟨fun e => ?_, fun e0 => ⟨fun e => ?_, fun e1 => ⟨fun e => ?_, fun e2 => ⟨fun e => ?_, fun e3 => ⟨fun e => ⟨by unfold zin; decide, ?_⟩, fun e4 => ⟨fun e => p_areIn (b := 0) (by decide) hT hS ?_, fun e5 => ⟨fun e => p_areIn (b := 0) (by decide) hT hS ?_, fun e6 => ⟨fun e => p_wrongIn (b := 0) (by decide) hT hS ?_, fun e7 => ⟨fun e => p_fadedIn (b := 0) (by decide) hT hS wQ ?_, fun e8 => ⟨fun e => ?_, fun e9 => ⟨fun e => p_knownBy hO ?_, fun e10 => ⟨fun e => ?_, fun e11 => ?_⟩⟩⟩⟩⟩⟩⟩⟩⟩⟩⟩⟩
  · rw [if_pos e] at hk; exact hk
  · rw [if_neg e0, if_pos e] at hk; exact hk
  · rw [if_neg e0, if_neg e1, if_pos e] at hk; exact hk
  · rw [if_neg e0, if_neg e1, if_neg e2, if_pos e] at hk; exact hk
  · rw [if_neg e0, if_neg e1, if_neg e2, if_neg e3, if_pos e] at hk; exact hk
  · dsimp only [x_int, x_lng, x_ild, x_lld, x_ald, x_ist, x_ast, x_lst, x_inc, x_ii, x_id, x_i, x_ll, x_ld, x_l, x_cmp, x_i2l, x_l2i, x_if, x_ic, x_dup, x_pop, x_dup2, x_gI, x_gL, x_gR, x_g1, x_g0, x_gP, x_pI, x_pZ, x_pL, x_pP, x_al, x_as, x_all, x_asl, x_alr, x_len, x_cpy, x_m2, x_m1, x_m2l, x_m1l, x_call, x_cv, x_ri, x_rz, x_rl, x_rv, zg, zset, zbef, zlong, zcat, cond_true, cond_false, List.take, List.drop, rv1, rv2, rv3, rv4, rv5, rv6, rv7, sm0, sm1, bl0, bl1, bl2, bl3, bl4, bl5, bl6, bl7, bl8, List.nil_append, List.cons_append, List.length_cons, List.length_nil, Nat.reduceBEq, Nat.reduceAdd, Nat.reduceSub, ta, tb, tn0, tn1, tn2, tn3, tn4, tn5, tn6, tn7, tn8, tn9, tn10, tn11, tn12]
    rw [if_neg e0, if_neg e1, if_neg e2, if_neg e3, if_neg e4, if_pos e] at hk; exact hk
  · dsimp only [x_int, x_lng, x_ild, x_lld, x_ald, x_ist, x_ast, x_lst, x_inc, x_ii, x_id, x_i, x_ll, x_ld, x_l, x_cmp, x_i2l, x_l2i, x_if, x_ic, x_dup, x_pop, x_dup2, x_gI, x_gL, x_gR, x_g1, x_g0, x_gP, x_pI, x_pZ, x_pL, x_pP, x_al, x_as, x_all, x_asl, x_alr, x_len, x_cpy, x_m2, x_m1, x_m2l, x_m1l, x_call, x_cv, x_ri, x_rz, x_rl, x_rv, zg, zset, zbef, zlong, zcat, cond_true, cond_false, List.take, List.drop, rv1, rv2, rv3, rv4, rv5, rv6, rv7, sm0, sm1, bl0, bl1, bl2, bl3, bl4, bl5, bl6, bl7, bl8, List.nil_append, List.cons_append, List.length_cons, List.length_nil, Nat.reduceBEq, Nat.reduceAdd, Nat.reduceSub, ta, tb, tn0, tn1, tn2, tn3, tn4, tn5, tn6, tn7, tn8, tn9, tn10, tn11, tn12]
    rw [if_neg e0, if_neg e1, if_neg e2, if_neg e3, if_neg e4, if_neg e5, if_pos e] at hk; exact hk
  · dsimp only [x_int, x_lng, x_ild, x_lld, x_ald, x_ist, x_ast, x_lst, x_inc, x_ii, x_id, x_i, x_ll, x_ld, x_l, x_cmp, x_i2l, x_l2i, x_if, x_ic, x_dup, x_pop, x_dup2, x_gI, x_gL, x_gR, x_g1, x_g0, x_gP, x_pI, x_pZ, x_pL, x_pP, x_al, x_as, x_all, x_asl, x_alr, x_len, x_cpy, x_m2, x_m1, x_m2l, x_m1l, x_call, x_cv, x_ri, x_rz, x_rl, x_rv, zg, zset, zbef, zlong, zcat, cond_true, cond_false, List.take, List.drop, rv1, rv2, rv3, rv4, rv5, rv6, rv7, sm0, sm1, bl0, bl1, bl2, bl3, bl4, bl5, bl6, bl7, bl8, List.nil_append, List.cons_append, List.length_cons, List.length_nil, Nat.reduceBEq, Nat.reduceAdd, Nat.reduceSub, ta, tb, tn0, tn1, tn2, tn3, tn4, tn5, tn6, tn7, tn8, tn9, tn10, tn11, tn12]
    rw [if_neg e0, if_neg e1, if_neg e2, if_neg e3, if_neg e4, if_neg e5, if_neg e6, if_pos e] at hk; exact hk
  · dsimp only [x_int, x_lng, x_ild, x_lld, x_ald, x_ist, x_ast, x_lst, x_inc, x_ii, x_id, x_i, x_ll, x_ld, x_l, x_cmp, x_i2l, x_l2i, x_if, x_ic, x_dup, x_pop, x_dup2, x_gI, x_gL, x_gR, x_g1, x_g0, x_gP, x_pI, x_pZ, x_pL, x_pP, x_al, x_as, x_all, x_asl, x_alr, x_len, x_cpy, x_m2, x_m1, x_m2l, x_m1l, x_call, x_cv, x_ri, x_rz, x_rl, x_rv, zg, zset, zbef, zlong, zcat, cond_true, cond_false, List.take, List.drop, rv1, rv2, rv3, rv4, rv5, rv6, rv7, sm0, sm1, bl0, bl1, bl2, bl3, bl4, bl5, bl6, bl7, bl8, List.nil_append, List.cons_append, List.length_cons, List.length_nil, Nat.reduceBEq, Nat.reduceAdd, Nat.reduceSub, ta, tb, tn0, tn1, tn2, tn3, tn4, tn5, tn6, tn7, tn8, tn9, tn10, tn11, tn12]
    rw [if_neg e0, if_neg e1, if_neg e2, if_neg e3, if_neg e4, if_neg e5, if_neg e6, if_neg e7, if_pos e] at hk; exact hk
  · rw [if_neg e0, if_neg e1, if_neg e2, if_neg e3, if_neg e4, if_neg e5, if_neg e6, if_neg e7, if_neg e8, if_pos e] at hk; exact hk
  · dsimp only [x_int, x_lng, x_ild, x_lld, x_ald, x_ist, x_ast, x_lst, x_inc, x_ii, x_id, x_i, x_ll, x_ld, x_l, x_cmp, x_i2l, x_l2i, x_if, x_ic, x_dup, x_pop, x_dup2, x_gI, x_gL, x_gR, x_g1, x_g0, x_gP, x_pI, x_pZ, x_pL, x_pP, x_al, x_as, x_all, x_asl, x_alr, x_len, x_cpy, x_m2, x_m1, x_m2l, x_m1l, x_call, x_cv, x_ri, x_rz, x_rl, x_rv, zg, zset, zbef, zlong, zcat, cond_true, cond_false, List.take, List.drop, rv1, rv2, rv3, rv4, rv5, rv6, rv7, sm0, sm1, bl0, bl1, bl2, bl3, bl4, bl5, bl6, bl7, bl8, List.nil_append, List.cons_append, List.length_cons, List.length_nil, Nat.reduceBEq, Nat.reduceAdd, Nat.reduceSub, ta, tb, tn0, tn1, tn2, tn3, tn4, tn5, tn6, tn7, tn8, tn9, tn10, tn11, tn12]
    rw [if_neg e0, if_neg e1, if_neg e2, if_neg e3, if_neg e4, if_neg e5, if_neg e6, if_neg e7, if_neg e8, if_neg e9, if_pos e] at hk; exact hk
  · rw [if_neg e0, if_neg e1, if_neg e2, if_neg e3, if_neg e4, if_neg e5, if_neg e6, if_neg e7, if_neg e8, if_neg e9, if_neg e10, if_pos e] at hk; exact hk
  · rw [if_neg e0, if_neg e1, if_neg e2, if_neg e3, if_neg e4, if_neg e5, if_neg e6, if_neg e7, if_neg e8, if_neg e9, if_neg e10, if_neg e11] at hk; exact hk
-- nearest
def nst (T : aT) (o : Option (Nat × Nat)) (a b : Nat) : Option (Nat × Nat) := match o with
  | none => some (a, b)
  | some p => if apT T p.1 p.2 ≤ apT T a b then some p else some (a, b)
def nrB (T : aT) (o : Option (Nat × Nat)) (a : Nat) : Nat → Option (Nat × Nat)
  | 0 => o
  | n + 1 => nst T (nrB T o a n) a (a + 1 + n)
def nrA (T : aT) : Nat → Option (Nat × Nat)
  | 0 => none
  | a + 1 => nrB T (nrA T a) a (T.1 0 - (a + 1))
def nrL (T : aT) (m : Int32) (o : Option (Nat × Nat)) : Int32 := match o with
  | none => m
  | some p => apT T p.1 p.2
def nrV (T : aT) (w : Int32) (o : Option (Nat × Nat)) : Int32 := match o with
  | none => -2
  | some p => if w = 0 then nI p.1 else if w = 1 then nI p.2 else apT T p.1 p.2
def nrO (T : aT) (o : Option (Nat × Nat)) : Prop := ∀ p, o = some p → p.1 < T.1 0 ∧ p.2 < T.1 0
theorem nst_ok {T : aT} {o : Option (Nat × Nat)} {a b : Nat} (h : nrO T o) (ha : a < T.1 0) (hb : b < T.1 0) : nrO T (nst T o a b) := by
  intro p hp
  unfold nst at hp
  cases o with
  | none => cases hp; exact ⟨ha, hb⟩
  | some q =>
    dsimp only at hp
    split at hp
    · cases hp; exact h _ rfl
    · cases hp; exact ⟨ha, hb⟩
theorem WT.beat {T : aT} (wT : WT T) {b : Nat} (hb : b < T.1 0) : gSm (fun k => T.2.1 3 (6 * b + k)) := fun k hk => by
  obtain ⟨x, -, hx, ex⟩ := wT.2.1 b hb k hk
  exact ⟨x, by omega, ex⟩
theorem apT_small {T : aT} (wT : WT T) {a b : Nat} (ha : a < T.1 0) (hb : b < T.1 0) : ∃ m, m ≤ 54 ∧ apT T a b = nI m := farf_small wT (wT.beat hb) ha
def v_nearest (A : aA) (w : Int32) : Int32 := if okI w 0 2 then nrV A.T w (nrA A.T (A.T.1 0)) else -1
theorem c_nearest {K : zQ} {I : zI} {L : zJ} {P : zP} {A : aA} {w : Int32} (wT : WT A.T) (hC : RC A I P) (hk : K [.inl (v_nearest A w)] (I, L, P)) : mX11_nearest K [kbR, .inl w] (I, L, P) := by
  obtain ⟨t, hT, h11, h8, hS⟩ := hC.b
  have h6 := hT.h6
  unfold v_nearest at hk
  have hp : P 11 0 11 < 2 := by rw [h11]; exact hT.1
  show bX11_nearest_0 K [some (.inr (.inr (11,0))), some (.inl w), none, none, none, none, none] [] (I, L, P)
  unfold bX11_nearest_0
  dsimp only [x_int, x_lng, x_ild, x_lld, x_ald, x_ist, x_ast, x_lst, x_inc, x_ii, x_id, x_i, x_ll, x_ld, x_l, x_cmp, x_i2l, x_l2i, x_if, x_ic, x_dup, x_pop, x_dup2, x_gI, x_gL, x_gR, x_g1, x_g0, x_gP, x_pI, x_pZ, x_pL, x_pP, x_al, x_as, x_all, x_asl, x_alr, x_len, x_cpy, x_m2, x_m1, x_m2l, x_m1l, x_call, x_cv, x_ri, x_rz, x_rl, x_rv, zg, zset, zbef, zlong, zcat, cond_true, cond_false, List.take, List.drop, rv1, rv2, rv3, rv4, rv5, rv6, rv7, sm0, sm1, bl0, bl1, bl2, bl3, bl4, bl5, bl6, bl7, bl8, List.nil_append, List.cons_append, List.length_cons, List.length_nil, Nat.reduceBEq, Nat.reduceAdd, Nat.reduceSub, ta, tb, tn0, tn1, tn2, tn3, tn4, tn5, tn6, tn7, tn8, tn9, tn10, tn11, tn12, bX11_nearest_9]
  refine ⟨fun c => ?_, fun c => ⟨fun d => ?_, fun d => ?_⟩⟩
  · rw [if_neg (fun q => Int32.not_lt.mpr q.1 c)] at hk; exact hk
  · rw [if_pos ⟨Int32.not_lt.mp c, d⟩] at hk
    refine zinv (A.T.1 0) (fun a Z M => ∃ z5 z6 : Option zV, Z = [some kbR, some (.inl w), some (.inl (nrL A.T 2147483647 (nrA A.T a))), some (.inl (nrV A.T w (nrA A.T a))), some (.inl (nI a)), z5, z6] ∧ M = (I, L, P) ∧ nrO A.T (nrA A.T a)) ?_ ?_ ⟨none, none, rfl, rfl, fun p hp => by cases hp⟩
    · rintro a Z M ha ⟨z5, z6, rfl, rfl, ho⟩ self hself
      dsimp only [x_int, x_lng, x_ild, x_lld, x_ald, x_ist, x_ast, x_lst, x_inc, x_ii, x_id, x_i, x_ll, x_ld, x_l, x_cmp, x_i2l, x_l2i, x_if, x_ic, x_dup, x_pop, x_dup2, x_gI, x_gL, x_gR, x_g1, x_g0, x_gP, x_pI, x_pZ, x_pL, x_pP, x_al, x_as, x_all, x_asl, x_alr, x_len, x_cpy, x_m2, x_m1, x_m2l, x_m1l, x_call, x_cv, x_ri, x_rz, x_rl, x_rv, zg, zset, zbef, zlong, zcat, cond_true, cond_false, List.take, List.drop, rv1, rv2, rv3, rv4, rv5, rv6, rv7, sm0, sm1, bl0, bl1, bl2, bl3, bl4, bl5, bl6, bl7, bl8, List.nil_append, List.cons_append, List.length_cons, List.length_nil, Nat.reduceBEq, Nat.reduceAdd, Nat.reduceSub, ta, tb, tn0, tn1, tn2, tn3, tn4, tn5, tn6, tn7, tn8, tn9, tn10, tn11, tn12]
      rw [h11, n_succ a]
      refine ⟨hT.1, fun c => absurd c (lt_go hT.2.1.1 (by omega) ha), fun _ => ?_⟩
      refine zinv (A.T.1 0 - (a + 1)) (fun n Z M => ∃ z6 : Option zV, Z = [some kbR, some (.inl w), some (.inl (nrL A.T 2147483647 (nrB A.T (nrA A.T a) a n))), some (.inl (nrV A.T w (nrB A.T (nrA A.T a) a n))), some (.inl (nI a)), some (.inl (nI (a + 1 + n))), z6] ∧ M = (I, L, P) ∧ nrO A.T (nrB A.T (nrA A.T a) a n)) ?_ ?_ ⟨z6, rfl, rfl, ho⟩
      · rintro n Z M hn ⟨z6, rfl, rfl, ho⟩ self2 hself2
        have hb : a + 1 + n < A.T.1 0 := by omega
        dsimp only [x_int, x_lng, x_ild, x_lld, x_ald, x_ist, x_ast, x_lst, x_inc, x_ii, x_id, x_i, x_ll, x_ld, x_l, x_cmp, x_i2l, x_l2i, x_if, x_ic, x_dup, x_pop, x_dup2, x_gI, x_gL, x_gR, x_g1, x_g0, x_gP, x_pI, x_pZ, x_pL, x_pP, x_al, x_as, x_all, x_asl, x_alr, x_len, x_cpy, x_m2, x_m1, x_m2l, x_m1l, x_call, x_cv, x_ri, x_rz, x_rl, x_rv, zg, zset, zbef, zlong, zcat, cond_true, cond_false, List.take, List.drop, rv1, rv2, rv3, rv4, rv5, rv6, rv7, sm0, sm1, bl0, bl1, bl2, bl3, bl4, bl5, bl6, bl7, bl8, List.nil_append, List.cons_append, List.length_cons, List.length_nil, Nat.reduceBEq, Nat.reduceAdd, Nat.reduceSub, ta, tb, tn0, tn1, tn2, tn3, tn4, tn5, tn6, tn7, tn8, tn9, tn10, tn11, tn12, zl_43, bX11_nearest_109]
        rw [h11, n_cl (n := a) (by omega), n_cl (n := a + 1 + n) (by omega)]
        refine ⟨hT.1, fun c => absurd c (lt_go hT.2.1.1 (by omega) hb), fun _ => ⟨hT.1, n_zin (by omega) (by decide), hT.1, n_zin (by omega) (by decide), p_apartH hT ha hb ?_⟩⟩
        dsimp only [x_int, x_lng, x_ild, x_lld, x_ald, x_ist, x_ast, x_lst, x_inc, x_ii, x_id, x_i, x_ll, x_ld, x_l, x_cmp, x_i2l, x_l2i, x_if, x_ic, x_dup, x_pop, x_dup2, x_gI, x_gL, x_gR, x_g1, x_g0, x_gP, x_pI, x_pZ, x_pL, x_pP, x_al, x_as, x_all, x_asl, x_alr, x_len, x_cpy, x_m2, x_m1, x_m2l, x_m1l, x_call, x_cv, x_ri, x_rz, x_rl, x_rv, zg, zset, zbef, zlong, zcat, cond_true, cond_false, List.take, List.drop, rv1, rv2, rv3, rv4, rv5, rv6, rv7, sm0, sm1, bl0, bl1, bl2, bl3, bl4, bl5, bl6, bl7, bl8, List.nil_append, List.cons_append, List.length_cons, List.length_nil, Nat.reduceBEq, Nat.reduceAdd, Nat.reduceSub, ta, tb, tn0, tn1, tn2, tn3, tn4, tn5, tn6, tn7, tn8, tn9, tn10, tn11, tn12, bX11_nearest_109, bX11_nearest_108]
        rw [n_succ (a + 1 + n)]
        have on := nst_ok ho ha hb
        obtain ⟨m, hm, em⟩ := apT_small wT ha hb
        have step : nrB A.T (nrA A.T a) a (n + 1) = nst A.T (nrB A.T (nrA A.T a) a n) a (a + 1 + n) := rfl
        have keep : nrL A.T 2147483647 (nrB A.T (nrA A.T a) a n) ≤ apT A.T a (a + 1 + n) → nrB A.T (nrA A.T a) a (n + 1) = nrB A.T (nrA A.T a) a n := fun c => by
          rw [step]
          unfold nst
          cases e : nrB A.T (nrA A.T a) a n with
          | none =>
            rw [e] at c
            have c : (2147483647 : Int32) ≤ apT A.T a (a + 1 + n) := c
            rw [em, show (2147483647 : Int32) = nI 2147483647 from rfl, n_le (by omega) (by omega)] at c
            omega
          | some p =>
            rw [e] at c
            exact if_pos c
        have take : ¬ nrL A.T 2147483647 (nrB A.T (nrA A.T a) a n) ≤ apT A.T a (a + 1 + n) → nrB A.T (nrA A.T a) a (n + 1) = some (a, a + 1 + n) := fun c => by
          rw [step]
          unfold nst
          cases e : nrB A.T (nrA A.T a) a n with
          | none => rfl
          | some p =>
            rw [e] at c
            exact if_neg c
        refine ⟨fun c => hself2 _ _ ⟨some (.inl (apT A.T a (a + 1 + n))), ?_, rfl, by rw [keep c]; exact ho⟩, fun c => ⟨fun d0 => hself2 _ _ ⟨some (.inl (apT A.T a (a + 1 + n))), ?_, rfl, on⟩, fun d0 => ⟨fun d1 => hself2 _ _ ⟨some (.inl (apT A.T a (a + 1 + n))), ?_, rfl, on⟩, fun d1 => hself2 _ _ ⟨some (.inl (apT A.T a (a + 1 + n))), ?_, rfl, on⟩⟩⟩⟩
        · rw [keep c]; rfl
        · rw [take c]
          simp only [nrL, nrV]
          rw [if_pos d0]; rfl
        · rw [take c]
          simp only [nrL, nrV]
          rw [if_neg d0, if_pos d1]; rfl
        · rw [take c]
          simp only [nrL, nrV]
          rw [if_neg d0, if_neg d1]; rfl
      · rintro Z M ⟨z6, rfl, rfl, ho⟩ self2
        dsimp only [x_int, x_lng, x_ild, x_lld, x_ald, x_ist, x_ast, x_lst, x_inc, x_ii, x_id, x_i, x_ll, x_ld, x_l, x_cmp, x_i2l, x_l2i, x_if, x_ic, x_dup, x_pop, x_dup2, x_gI, x_gL, x_gR, x_g1, x_g0, x_gP, x_pI, x_pZ, x_pL, x_pP, x_al, x_as, x_all, x_asl, x_alr, x_len, x_cpy, x_m2, x_m1, x_m2l, x_m1l, x_call, x_cv, x_ri, x_rz, x_rl, x_rv, zg, zset, zbef, zlong, zcat, cond_true, cond_false, List.take, List.drop, rv1, rv2, rv3, rv4, rv5, rv6, rv7, sm0, sm1, bl0, bl1, bl2, bl3, bl4, bl5, bl6, bl7, bl8, List.nil_append, List.cons_append, List.length_cons, List.length_nil, Nat.reduceBEq, Nat.reduceAdd, Nat.reduceSub, ta, tb, tn0, tn1, tn2, tn3, tn4, tn5, tn6, tn7, tn8, tn9, tn10, tn11, tn12]
        rw [h11, n_succ a]
        exact ⟨hT.1, fun _ => hself _ _ ⟨_, _, rfl, rfl, ho⟩, fun c => absurd c (by rw [show a + 1 + (A.T.1 0 - (a + 1)) = A.T.1 0 by omega]; exact lt_out hT.2.1.1)⟩
    · rintro Z M ⟨z5, z6, rfl, rfl, ho⟩ self
      dsimp only [x_int, x_lng, x_ild, x_lld, x_ald, x_ist, x_ast, x_lst, x_inc, x_ii, x_id, x_i, x_ll, x_ld, x_l, x_cmp, x_i2l, x_l2i, x_if, x_ic, x_dup, x_pop, x_dup2, x_gI, x_gL, x_gR, x_g1, x_g0, x_gP, x_pI, x_pZ, x_pL, x_pP, x_al, x_as, x_all, x_asl, x_alr, x_len, x_cpy, x_m2, x_m1, x_m2l, x_m1l, x_call, x_cv, x_ri, x_rz, x_rl, x_rv, zg, zset, zbef, zlong, zcat, cond_true, cond_false, List.take, List.drop, rv1, rv2, rv3, rv4, rv5, rv6, rv7, sm0, sm1, bl0, bl1, bl2, bl3, bl4, bl5, bl6, bl7, bl8, List.nil_append, List.cons_append, List.length_cons, List.length_nil, Nat.reduceBEq, Nat.reduceAdd, Nat.reduceSub, ta, tb, tn0, tn1, tn2, tn3, tn4, tn5, tn6, tn7, tn8, tn9, tn10, tn11, tn12]
      rw [h11]
      exact ⟨hT.1, fun _ => hk, fun c => absurd c (lt_out hT.2.1.1)⟩
  · rw [if_neg (fun q => d q.2)] at hk; exact hk
def nrR (o : Option (Nat × Nat)) : Int32 := match o with
  | none => -1
  | some p => nI (6 * p.1 + p.2)
theorem r_nearest {K : zQ} {I : zI} {L : zJ} {P : zP} {A : aA} {w : Int32} (hR : RR A I L) (hK : ∀ (I' : zI) (L' : zJ), frR I I' → zeLr L L' → K [.inl (v_nearest A w)] (I', L', P)) : mX12_nearest K [refR, .inl w] (I, L, P) := by
  show bX12_nearest_0 K [some (.inr (.inr (12,0))), some (.inl w), none, none, none, none] [] (I, L, P)
  unfold bX12_nearest_0
  obtain ⟨I1, e9, hR1, f1⟩ := r_thr P hR
  dsimp only [x_ald, x_int, x_pI, zg, Nat.reduceBEq, cond_true]
  rw [e9]
  have hk := hK I1 L f1 zeLr.rf
  unfold v_nearest at hk
  have hT := hR1.1
  have h6 := hT.h6
  dsimp only [x_int, x_lng, x_ild, x_lld, x_ald, x_ist, x_ast, x_lst, x_inc, x_ii, x_id, x_i, x_ll, x_ld, x_l, x_cmp, x_i2l, x_l2i, x_if, x_ic, x_dup, x_pop, x_dup2, x_gI, x_gL, x_gR, x_g1, x_g0, x_gP, x_pI, x_pZ, x_pL, x_pP, x_al, x_as, x_all, x_asl, x_alr, x_len, x_cpy, x_m2, x_m1, x_m2l, x_m1l, x_call, x_cv, x_ri, x_rz, x_rl, x_rv, zg, zset, zbef, zlong, zcat, cond_true, cond_false, List.take, List.drop, rv1, rv2, rv3, rv4, rv5, rv6, rv7, sm0, sm1, bl0, bl1, bl2, bl3, bl4, bl5, bl6, bl7, bl8, List.nil_append, List.cons_append, List.length_cons, List.length_nil, Nat.reduceBEq, Nat.reduceAdd, Nat.reduceSub, ta, tb, tn0, tn1, tn2, tn3, tn4, tn5, tn6, tn7, tn8, tn9, tn10, tn11, tn12]
  refine p_isIn (fun ok => ?_) (fun no => ?_)
  · rw [if_pos ok] at hk
    dsimp only [x_int, x_lng, x_ild, x_lld, x_ald, x_ist, x_ast, x_lst, x_inc, x_ii, x_id, x_i, x_ll, x_ld, x_l, x_cmp, x_i2l, x_l2i, x_if, x_ic, x_dup, x_pop, x_dup2, x_gI, x_gL, x_gR, x_g1, x_g0, x_gP, x_pI, x_pZ, x_pL, x_pP, x_al, x_as, x_all, x_asl, x_alr, x_len, x_cpy, x_m2, x_m1, x_m2l, x_m1l, x_call, x_cv, x_ri, x_rz, x_rl, x_rv, zg, zset, zbef, zlong, zcat, cond_true, cond_false, List.take, List.drop, rv1, rv2, rv3, rv4, rv5, rv6, rv7, sm0, sm1, bl0, bl1, bl2, bl3, bl4, bl5, bl6, bl7, bl8, List.nil_append, List.cons_append, List.length_cons, List.length_nil, Nat.reduceBEq, Nat.reduceAdd, Nat.reduceSub, ta, tb, tn0, tn1, tn2, tn3, tn4, tn5, tn6, tn7, tn8, tn9, tn10, tn11, tn12]
    refine ⟨fun q => absurd q (by decide), fun _ => ?_⟩
    refine zinv (A.T.1 0) (fun a Z M => ∃ z5 : Option zV, Z = [some refR, some (.inl w), some (.inl (nrR (nrA A.T a))), some (.inl (nrL A.T 0 (nrA A.T a))), some (.inl (nI a)), z5] ∧ M = (I1, L, P) ∧ nrO A.T (nrA A.T a)) ?_ ?_ ⟨none, rfl, rfl, fun p hp => by cases hp⟩
    · rintro a Z M ha ⟨z5, rfl, rfl, ho⟩ self hself
      dsimp only [x_int, x_lng, x_ild, x_lld, x_ald, x_ist, x_ast, x_lst, x_inc, x_ii, x_id, x_i, x_ll, x_ld, x_l, x_cmp, x_i2l, x_l2i, x_if, x_ic, x_dup, x_pop, x_dup2, x_gI, x_gL, x_gR, x_g1, x_g0, x_gP, x_pI, x_pZ, x_pL, x_pP, x_al, x_as, x_all, x_asl, x_alr, x_len, x_cpy, x_m2, x_m1, x_m2l, x_m1l, x_call, x_cv, x_ri, x_rz, x_rl, x_rv, zg, zset, zbef, zlong, zcat, cond_true, cond_false, List.take, List.drop, rv1, rv2, rv3, rv4, rv5, rv6, rv7, sm0, sm1, bl0, bl1, bl2, bl3, bl4, bl5, bl6, bl7, bl8, List.nil_append, List.cons_append, List.length_cons, List.length_nil, Nat.reduceBEq, Nat.reduceAdd, Nat.reduceSub, ta, tb, tn0, tn1, tn2, tn3, tn4, tn5, tn6, tn7, tn8, tn9, tn10, tn11, tn12]
      rw [n_succ a]
      refine ⟨fun c => absurd c (lt_go hT.1.1 (by omega) ha), fun _ => ?_⟩
      refine zinv (A.T.1 0 - (a + 1)) (fun n Z M => Z = [some refR, some (.inl w), some (.inl (nrR (nrB A.T (nrA A.T a) a n))), some (.inl (nrL A.T 0 (nrB A.T (nrA A.T a) a n))), some (.inl (nI a)), some (.inl (nI (a + 1 + n)))] ∧ M = (I1, L, P) ∧ nrO A.T (nrB A.T (nrA A.T a) a n)) ?_ ?_ ⟨rfl, rfl, ho⟩
      · rintro n Z M hn ⟨rfl, rfl, ho⟩ self2 hself2
        have hb : a + 1 + n < A.T.1 0 := by omega
        have on := nst_ok ho ha hb
        have step : nrB A.T (nrA A.T a) a (n + 1) = nst A.T (nrB A.T (nrA A.T a) a n) a (a + 1 + n) := rfl
        have take : nrB A.T (nrA A.T a) a (n + 1) = some (a, a + 1 + n) → bX12_nearest_66 K self self2 [some refR, some (.inl w), some (.inl (nrR (nrB A.T (nrA A.T a) a n))), some (.inl (nrL A.T 0 (nrB A.T (nrA A.T a) a n))), some (.inl (nI a)), some (.inl (nI (a + 1 + n)))] [] (I1, L, P) := fun e => by
          unfold bX12_nearest_66
          dsimp only [x_int, x_lng, x_ild, x_lld, x_ald, x_ist, x_ast, x_lst, x_inc, x_ii, x_id, x_i, x_ll, x_ld, x_l, x_cmp, x_i2l, x_l2i, x_if, x_ic, x_dup, x_pop, x_dup2, x_gI, x_gL, x_gR, x_g1, x_g0, x_gP, x_pI, x_pZ, x_pL, x_pP, x_al, x_as, x_all, x_asl, x_alr, x_len, x_cpy, x_m2, x_m1, x_m2l, x_m1l, x_call, x_cv, x_ri, x_rz, x_rl, x_rv, zg, zset, zbef, zlong, zcat, cond_true, cond_false, List.take, List.drop, rv1, rv2, rv3, rv4, rv5, rv6, rv7, sm0, sm1, bl0, bl1, bl2, bl3, bl4, bl5, bl6, bl7, bl8, List.nil_append, List.cons_append, List.length_cons, List.length_nil, Nat.reduceBEq, Nat.reduceAdd, Nat.reduceSub, ta, tb, tn0, tn1, tn2, tn3, tn4, tn5, tn6, tn7, tn8, tn9, tn10, tn11, tn12]
          refine p_apartOf hT ha hb ?_
          dsimp only [x_int, x_lng, x_ild, x_lld, x_ald, x_ist, x_ast, x_lst, x_inc, x_ii, x_id, x_i, x_ll, x_ld, x_l, x_cmp, x_i2l, x_l2i, x_if, x_ic, x_dup, x_pop, x_dup2, x_gI, x_gL, x_gR, x_g1, x_g0, x_gP, x_pI, x_pZ, x_pL, x_pP, x_al, x_as, x_all, x_asl, x_alr, x_len, x_cpy, x_m2, x_m1, x_m2l, x_m1l, x_call, x_cv, x_ri, x_rz, x_rl, x_rv, zg, zset, zbef, zlong, zcat, cond_true, cond_false, List.take, List.drop, rv1, rv2, rv3, rv4, rv5, rv6, rv7, sm0, sm1, bl0, bl1, bl2, bl3, bl4, bl5, bl6, bl7, bl8, List.nil_append, List.cons_append, List.length_cons, List.length_nil, Nat.reduceBEq, Nat.reduceAdd, Nat.reduceSub, ta, tb, tn0, tn1, tn2, tn3, tn4, tn5, tn6, tn7, tn8, tn9, tn10, tn11, tn12, bX12_nearest_84]
          rw [n6, n_succ (a + 1 + n)]
          exact hself2 _ _ ⟨by rw [e]; rfl, rfl, on⟩
        dsimp only [x_int, x_lng, x_ild, x_lld, x_ald, x_ist, x_ast, x_lst, x_inc, x_ii, x_id, x_i, x_ll, x_ld, x_l, x_cmp, x_i2l, x_l2i, x_if, x_ic, x_dup, x_pop, x_dup2, x_gI, x_gL, x_gR, x_g1, x_g0, x_gP, x_pI, x_pZ, x_pL, x_pP, x_al, x_as, x_all, x_asl, x_alr, x_len, x_cpy, x_m2, x_m1, x_m2l, x_m1l, x_call, x_cv, x_ri, x_rz, x_rl, x_rv, zg, zset, zbef, zlong, zcat, cond_true, cond_false, List.take, List.drop, rv1, rv2, rv3, rv4, rv5, rv6, rv7, sm0, sm1, bl0, bl1, bl2, bl3, bl4, bl5, bl6, bl7, bl8, List.nil_append, List.cons_append, List.length_cons, List.length_nil, Nat.reduceBEq, Nat.reduceAdd, Nat.reduceSub, ta, tb, tn0, tn1, tn2, tn3, tn4, tn5, tn6, tn7, tn8, tn9, tn10, tn11, tn12]
        refine ⟨fun c => absurd c (lt_go hT.1.1 (by omega) hb), fun _ => ⟨fun c => ?_, fun c => ?_⟩⟩
        · refine take ?_
          rw [step]
          cases e : nrB A.T (nrA A.T a) a n with
          | none => rfl
          | some p =>
            rw [e] at c
            have hp := ho p e
            have c : nI (6 * p.1 + p.2) < nI 0 := c
            rw [n_lt (by omega) (by omega)] at c
            omega
        · refine p_apartOf hT ha hb ?_
          dsimp only [x_int, x_lng, x_ild, x_lld, x_ald, x_ist, x_ast, x_lst, x_inc, x_ii, x_id, x_i, x_ll, x_ld, x_l, x_cmp, x_i2l, x_l2i, x_if, x_ic, x_dup, x_pop, x_dup2, x_gI, x_gL, x_gR, x_g1, x_g0, x_gP, x_pI, x_pZ, x_pL, x_pP, x_al, x_as, x_all, x_asl, x_alr, x_len, x_cpy, x_m2, x_m1, x_m2l, x_m1l, x_call, x_cv, x_ri, x_rz, x_rl, x_rv, zg, zset, zbef, zlong, zcat, cond_true, cond_false, List.take, List.drop, rv1, rv2, rv3, rv4, rv5, rv6, rv7, sm0, sm1, bl0, bl1, bl2, bl3, bl4, bl5, bl6, bl7, bl8, List.nil_append, List.cons_append, List.length_cons, List.length_nil, Nat.reduceBEq, Nat.reduceAdd, Nat.reduceSub, ta, tb, tn0, tn1, tn2, tn3, tn4, tn5, tn6, tn7, tn8, tn9, tn10, tn11, tn12, bX12_nearest_84]
          cases e : nrB A.T (nrA A.T a) a n with
          | none => rw [e] at c; exact absurd (by decide) c
          | some p =>
            have e1 : nrL A.T 0 (some p) = apT A.T p.1 p.2 := rfl
            rw [e1, n_succ (a + 1 + n)]
            refine ⟨fun d => ?_, fun d => hself2 _ _ ⟨?_, rfl, on⟩⟩
            · have := take (by rw [step, e]; exact if_neg (Int32.not_le.mpr d))
              rw [e] at this
              exact this
            · rw [step, e]
              simp only [nst]
              rw [if_pos (Int32.not_lt.mp d)]; rfl
      · rintro Z M ⟨rfl, rfl, ho⟩ self2
        dsimp only [x_int, x_lng, x_ild, x_lld, x_ald, x_ist, x_ast, x_lst, x_inc, x_ii, x_id, x_i, x_ll, x_ld, x_l, x_cmp, x_i2l, x_l2i, x_if, x_ic, x_dup, x_pop, x_dup2, x_gI, x_gL, x_gR, x_g1, x_g0, x_gP, x_pI, x_pZ, x_pL, x_pP, x_al, x_as, x_all, x_asl, x_alr, x_len, x_cpy, x_m2, x_m1, x_m2l, x_m1l, x_call, x_cv, x_ri, x_rz, x_rl, x_rv, zg, zset, zbef, zlong, zcat, cond_true, cond_false, List.take, List.drop, rv1, rv2, rv3, rv4, rv5, rv6, rv7, sm0, sm1, bl0, bl1, bl2, bl3, bl4, bl5, bl6, bl7, bl8, List.nil_append, List.cons_append, List.length_cons, List.length_nil, Nat.reduceBEq, Nat.reduceAdd, Nat.reduceSub, ta, tb, tn0, tn1, tn2, tn3, tn4, tn5, tn6, tn7, tn8, tn9, tn10, tn11, tn12]
        rw [n_succ a]
        exact ⟨fun _ => hself _ _ ⟨_, rfl, rfl, ho⟩, fun c => absurd c (by rw [show a + 1 + (A.T.1 0 - (a + 1)) = A.T.1 0 by omega]; exact lt_out hT.1.1)⟩
    · rintro Z M ⟨z5, rfl, rfl, ho⟩ self
      dsimp only [x_int, x_lng, x_ild, x_lld, x_ald, x_ist, x_ast, x_lst, x_inc, x_ii, x_id, x_i, x_ll, x_ld, x_l, x_cmp, x_i2l, x_l2i, x_if, x_ic, x_dup, x_pop, x_dup2, x_gI, x_gL, x_gR, x_g1, x_g0, x_gP, x_pI, x_pZ, x_pL, x_pP, x_al, x_as, x_all, x_asl, x_alr, x_len, x_cpy, x_m2, x_m1, x_m2l, x_m1l, x_call, x_cv, x_ri, x_rz, x_rl, x_rv, zg, zset, zbef, zlong, zcat, cond_true, cond_false, List.take, List.drop, rv1, rv2, rv3, rv4, rv5, rv6, rv7, sm0, sm1, bl0, bl1, bl2, bl3, bl4, bl5, bl6, bl7, bl8, List.nil_append, List.cons_append, List.length_cons, List.length_nil, Nat.reduceBEq, Nat.reduceAdd, Nat.reduceSub, ta, tb, tn0, tn1, tn2, tn3, tn4, tn5, tn6, tn7, tn8, tn9, tn10, tn11, tn12, bX12_nearest_127]
      refine ⟨fun _ => ⟨fun c => ?_, fun c => ?_⟩, fun c => absurd c (lt_out hT.1.1)⟩
      · cases e : nrA A.T (A.T.1 0) with
        | none => rw [e] at c; exact absurd c (by decide)
        | some p =>
          rw [e] at hk
          have hp := ho p e
          have e1 : nrR (some p) = nI (6 * p.1 + p.2) := rfl
          have e2 : nrL A.T 0 (some p) = apT A.T p.1 p.2 := rfl
          have e3 : nrV A.T w (some p) = if w = 0 then nI p.1 else if w = 1 then nI p.2 else apT A.T p.1 p.2 := rfl
          rw [e3] at hk
          rw [e1, e2, show (6 : Int32) = nI 6 from rfl, pk_rem (by omega) (by decide) (by decide), pk_div (by omega) (by decide) (by decide), show (6 * p.1 + p.2) / 6 = p.1 by omega, show (6 * p.1 + p.2) % 6 = p.2 by omega]
          refine ⟨fun d => ⟨by decide, ?_⟩, fun d => ⟨fun d1 => ⟨by decide, ?_⟩, fun d1 => ?_⟩⟩
          · rw [if_pos d] at hk; exact hk
          · rw [if_neg d, if_pos d1] at hk; exact hk
          · rw [if_neg d, if_neg d1] at hk; exact hk
      · cases e : nrA A.T (A.T.1 0) with
        | none => rw [e] at hk; exact hk
        | some p =>
          have hp := ho p e
          rw [e] at c
          have c : ¬ nI 0 ≤ nI (6 * p.1 + p.2) := c
          rw [n_le (by omega) (by omega)] at c
          omega
  · rw [if_neg no] at hk
    exact ⟨fun _ => hk, fun q => absurd rfl q⟩
