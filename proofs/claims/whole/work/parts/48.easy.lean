theorem p_digitsR {K : zQ} {I : zI} {L : zJ} {P : zP} {ka o : Nat} (hka : (zsrt ka == 1 && zaux ka == 0) = true) (hl : o + 6 ≤ zlen ka) (hl2 : zlen ka < 2147483648) (hK : K [.inl (dgn (fun k => I ka 0 (o + k)) 6)] (I, L, P)) : mX12_digitsOf K [refR, .inr (.inr (ka, 0)), .inl (nI o)] (I, L, P) := by
  show bX12_digitsOf_5 K [some refR, some (.inr (.inr (ka, 0))), some (.inl (nI o)), some (.inl 0), some (.inl 0)] [] (I, L, P)
  refine zfor 6 (fun n => [some refR, some (.inr (.inr (ka, 0))), some (.inl (nI o)), some (.inl (dgn (fun k => I ka 0 (o + k)) n)), some (.inl (nI n))]) (fun _ => (I, L, P)) (fun n hn self hs => ?_) (fun self => ?_)
  · dsimp only [x_int, x_lng, x_ild, x_lld, x_ald, x_ist, x_ast, x_lst, x_inc, x_ii, x_id, x_i, x_ll, x_ld, x_l, x_cmp, x_i2l, x_l2i, x_if, x_ic, x_dup, x_pop, x_dup2, x_gI, x_gL, x_gR, x_g1, x_g0, x_gP, x_pI, x_pZ, x_pL, x_pP, x_al, x_as, x_all, x_asl, x_alr, x_len, x_cpy, x_m2, x_m1, x_m2l, x_m1l, x_call, x_cv, x_ri, x_rz, x_rl, x_rv, zg, zset, zbef, zlong, zcat, cond_true, cond_false, List.take, List.drop, rv1, rv2, rv3, rv4, rv5, rv6, rv7, sm0, sm1, bl0, bl1, bl2, bl3, bl4, bl5, bl6, bl7, bl8, List.nil_append, List.cons_append, List.length_cons, List.length_nil, Nat.reduceBEq, Nat.reduceAdd, Nat.reduceSub, ta, tb, tn0, tn1, tn2, tn3, tn4, tn5, tn6, tn7, tn8, tn9, tn10, tn11, tn12]
    rw [hka, n_add, n_cl (n := o + n) (by omega), n_succ n, Int32.mul_comm 10]
    exact ⟨fun c => absurd c (lt_go (n := 6) rfl (by omega) hn), fun _ => ⟨n_zin (by omega) (by omega), hs⟩⟩
  · exact And.intro (fun _ => hK) (fun c => absurd c (lt_out (n := 6) rfl))
-- hand
def WB (T : aT) (S : aS) : Prop := ∀ r, r < T.1 2 → ¬ S 5 r = 1 → S 6 r = -1
def v_hand (A : aA) (h w : Int32) : Int32 := if okN (A.T.1 0) h then (if w = 0 then A.S 0 h.toNatClampNeg else if w = 1 then A.S 11 h.toNatClampNeg else if w = 2 then dgt (A.T.2.1 3) h.toNatClampNeg else if w = 3 then A.S 1 h.toNatClampNeg else if w = 4 then nI (zcount (fun r => decide (A.S 6 r = h)) (A.T.1 2)) else -1) else -1
theorem c_hand {K : zQ} {I : zI} {L : zJ} {P : zP} {A : aA} {h w : Int32} (hC : RC A I P) (hk : K [.inl (v_hand A h w)] (I, L, P)) : mX11_hand K [kbR, .inl h, .inl w] (I, L, P) := by
  obtain ⟨t, hT, h11, h8, hS⟩ := hC.b
  have h6 := hT.h6
  unfold v_hand at hk
  show bX11_hand_0 K [some (.inr (.inr (11,0))), some (.inl h), some (.inl w)] [] (I, L, P)
  unfold bX11_hand_0
  dsimp only [x_int, x_lng, x_ild, x_lld, x_ald, x_ist, x_ast, x_lst, x_inc, x_ii, x_id, x_i, x_ll, x_ld, x_l, x_cmp, x_i2l, x_l2i, x_if, x_ic, x_dup, x_pop, x_dup2, x_gI, x_gL, x_gR, x_g1, x_g0, x_gP, x_pI, x_pZ, x_pL, x_pP, x_al, x_as, x_all, x_asl, x_alr, x_len, x_cpy, x_m2, x_m1, x_m2l, x_m1l, x_call, x_cv, x_ri, x_rz, x_rl, x_rv, zg, zset, zbef, zlong, zcat, cond_true, cond_false, List.take, List.drop, rv1, rv2, rv3, rv4, rv5, rv6, rv7, sm0, sm1, bl0, bl1, bl2, bl3, bl4, bl5, bl6, bl7, bl8, List.nil_append, List.cons_append, List.length_cons, List.length_nil, Nat.reduceBEq, Nat.reduceAdd, Nat.reduceSub, ta, tb, tn0, tn1, tn2, tn3, tn4, tn5, tn6, tn7, tn8, tn9, tn10, tn11, tn12]
  refine p_isHandC hT h11 (fun ok => ?_) (fun no => ?_)
  · dsimp only [x_int, x_lng, x_ild, x_lld, x_ald, x_ist, x_ast, x_lst, x_inc, x_ii, x_id, x_i, x_ll, x_ld, x_l, x_cmp, x_i2l, x_l2i, x_if, x_ic, x_dup, x_pop, x_dup2, x_gI, x_gL, x_gR, x_g1, x_g0, x_gP, x_pI, x_pZ, x_pL, x_pP, x_al, x_as, x_all, x_asl, x_alr, x_len, x_cpy, x_m2, x_m1, x_m2l, x_m1l, x_call, x_cv, x_ri, x_rz, x_rl, x_rv, zg, zset, zbef, zlong, zcat, cond_true, cond_false, List.take, List.drop, rv1, rv2, rv3, rv4, rv5, rv6, rv7, sm0, sm1, bl0, bl1, bl2, bl3, bl4, bl5, bl6, bl7, bl8, List.nil_append, List.cons_append, List.length_cons, List.length_nil, Nat.reduceBEq, Nat.reduceAdd, Nat.reduceSub, ta, tb, tn0, tn1, tn2, tn3, tn4, tn5, tn6, tn7, tn8, tn9, tn10, tn11, tn12, g_sw, zk_31, zl_31, zk_32, zl_32, zk_33, zl_33]
    rw [if_pos ok] at hk
    obtain ⟨x, rfl, hx⟩ := ok_of (by omega) ok
    rw [n_cl (n := x) (by omega)] at hk ⊢
    obtain ⟨s1, s2, s3⟩ := hS.1 x hx
    rw [s1, s2, s3, h11]
    have zx : zin (nI x) 6 := n_zin (by omega) (by decide)
    refine ⟨fun q => absurd q (by decide), fun _ => ⟨fun e => ⟨zx, ?_⟩, fun e => ⟨fun e1 => ⟨zx, ?_⟩, fun e1 => ⟨fun e2 => ⟨hT.1, zx, p_digitsOf rfl rfl ?_⟩, fun e2 => ⟨fun e3 => ⟨zx, ?_⟩, fun e3 => ⟨fun e4 => p_manyBoundTo h8 hT hS ?_, fun e4 => ?_⟩⟩⟩⟩⟩⟩
    · rw [if_pos e] at hk; exact hk
    · rw [if_neg e, if_pos e1] at hk; exact hk
    · dsimp only [x_int, x_lng, x_ild, x_lld, x_ald, x_ist, x_ast, x_lst, x_inc, x_ii, x_id, x_i, x_ll, x_ld, x_l, x_cmp, x_i2l, x_l2i, x_if, x_ic, x_dup, x_pop, x_dup2, x_gI, x_gL, x_gR, x_g1, x_g0, x_gP, x_pI, x_pZ, x_pL, x_pP, x_al, x_as, x_all, x_asl, x_alr, x_len, x_cpy, x_m2, x_m1, x_m2l, x_m1l, x_call, x_cv, x_ri, x_rz, x_rl, x_rv, zg, zset, zbef, zlong, zcat, cond_true, cond_false, List.take, List.drop, rv1, rv2, rv3, rv4, rv5, rv6, rv7, sm0, sm1, bl0, bl1, bl2, bl3, bl4, bl5, bl6, bl7, bl8, List.nil_append, List.cons_append, List.length_cons, List.length_nil, Nat.reduceBEq, Nat.reduceAdd, Nat.reduceSub, ta, tb, tn0, tn1, tn2, tn3, tn4, tn5, tn6, tn7, tn8, tn9, tn10, tn11, tn12]
      rw [if_neg e, if_neg e1, if_pos e2] at hk
      rw [dgn_congr (g := fun k => A.T.2.1 3 (6 * x + k)) (fun k hk => (hT.hand hx).2.2.2 k hk)]; exact hk
    · rw [if_neg e, if_neg e1, if_neg e2, if_pos e3] at hk; exact hk
    · dsimp only [x_int, x_lng, x_ild, x_lld, x_ald, x_ist, x_ast, x_lst, x_inc, x_ii, x_id, x_i, x_ll, x_ld, x_l, x_cmp, x_i2l, x_l2i, x_if, x_ic, x_dup, x_pop, x_dup2, x_gI, x_gL, x_gR, x_g1, x_g0, x_gP, x_pI, x_pZ, x_pL, x_pP, x_al, x_as, x_all, x_asl, x_alr, x_len, x_cpy, x_m2, x_m1, x_m2l, x_m1l, x_call, x_cv, x_ri, x_rz, x_rl, x_rv, zg, zset, zbef, zlong, zcat, cond_true, cond_false, List.take, List.drop, rv1, rv2, rv3, rv4, rv5, rv6, rv7, sm0, sm1, bl0, bl1, bl2, bl3, bl4, bl5, bl6, bl7, bl8, List.nil_append, List.cons_append, List.length_cons, List.length_nil, Nat.reduceBEq, Nat.reduceAdd, Nat.reduceSub, ta, tb, tn0, tn1, tn2, tn3, tn4, tn5, tn6, tn7, tn8, tn9, tn10, tn11, tn12]
      rw [if_neg e, if_neg e1, if_neg e2, if_neg e3, if_pos e4] at hk; exact hk
    · rw [if_neg e, if_neg e1, if_neg e2, if_neg e3, if_neg e4] at hk; exact hk
  · dsimp only [x_int, x_lng, x_ild, x_lld, x_ald, x_ist, x_ast, x_lst, x_inc, x_ii, x_id, x_i, x_ll, x_ld, x_l, x_cmp, x_i2l, x_l2i, x_if, x_ic, x_dup, x_pop, x_dup2, x_gI, x_gL, x_gR, x_g1, x_g0, x_gP, x_pI, x_pZ, x_pL, x_pP, x_al, x_as, x_all, x_asl, x_alr, x_len, x_cpy, x_m2, x_m1, x_m2l, x_m1l, x_call, x_cv, x_ri, x_rz, x_rl, x_rv, zg, zset, zbef, zlong, zcat, cond_true, cond_false, List.take, List.drop, rv1, rv2, rv3, rv4, rv5, rv6, rv7, sm0, sm1, bl0, bl1, bl2, bl3, bl4, bl5, bl6, bl7, bl8, List.nil_append, List.cons_append, List.length_cons, List.length_nil, Nat.reduceBEq, Nat.reduceAdd, Nat.reduceSub, ta, tb, tn0, tn1, tn2, tn3, tn4, tn5, tn6, tn7, tn8, tn9, tn10, tn11, tn12]
    rw [if_neg no] at hk
    exact ⟨fun _ => hk, fun q => absurd rfl q⟩
theorem r_hand {K : zQ} {I : zI} {L : zJ} {P : zP} {A : aA} {h w : Int32} (wB : WB A.T A.S) (hR : RR A I L) (hK : ∀ (I' : zI) (L' : zJ), frR I I' → zeLr L L' → K [.inl (v_hand A h w)] (I', L', P)) : mX12_hand K [refR, .inl h, .inl w] (I, L, P) := by
  show bX12_hand_0 K [some (.inr (.inr (12,0))), some (.inl h), some (.inl w), none, none] [] (I, L, P)
  unfold bX12_hand_0
  obtain ⟨I1, e9, hR1, f1⟩ := r_thr P hR
  dsimp only [x_ald, x_int, x_pI, zg, Nat.reduceBEq, cond_true]
  rw [e9]
  have hk := hK I1 L f1 zeLr.rf
  unfold v_hand at hk
  have hT := hR1.1
  have hS := hR1.2.1
  have hp := hR1.2.2.1
  have h6 := hT.h6
  have r10 := hT.r10
  dsimp only [x_int, x_lng, x_ild, x_lld, x_ald, x_ist, x_ast, x_lst, x_inc, x_ii, x_id, x_i, x_ll, x_ld, x_l, x_cmp, x_i2l, x_l2i, x_if, x_ic, x_dup, x_pop, x_dup2, x_gI, x_gL, x_gR, x_g1, x_g0, x_gP, x_pI, x_pZ, x_pL, x_pP, x_al, x_as, x_all, x_asl, x_alr, x_len, x_cpy, x_m2, x_m1, x_m2l, x_m1l, x_call, x_cv, x_ri, x_rz, x_rl, x_rv, zg, zset, zbef, zlong, zcat, cond_true, cond_false, List.take, List.drop, rv1, rv2, rv3, rv4, rv5, rv6, rv7, sm0, sm1, bl0, bl1, bl2, bl3, bl4, bl5, bl6, bl7, bl8, List.nil_append, List.cons_append, List.length_cons, List.length_nil, Nat.reduceBEq, Nat.reduceAdd, Nat.reduceSub, ta, tb, tn0, tn1, tn2, tn3, tn4, tn5, tn6, tn7, tn8, tn9, tn10, tn11, tn12]
  refine p_isHandR hT (fun ok => ?_) (fun no => ?_)
  · dsimp only [x_int, x_lng, x_ild, x_lld, x_ald, x_ist, x_ast, x_lst, x_inc, x_ii, x_id, x_i, x_ll, x_ld, x_l, x_cmp, x_i2l, x_l2i, x_if, x_ic, x_dup, x_pop, x_dup2, x_gI, x_gL, x_gR, x_g1, x_g0, x_gP, x_pI, x_pZ, x_pL, x_pP, x_al, x_as, x_all, x_asl, x_alr, x_len, x_cpy, x_m2, x_m1, x_m2l, x_m1l, x_call, x_cv, x_ri, x_rz, x_rl, x_rv, zg, zset, zbef, zlong, zcat, cond_true, cond_false, List.take, List.drop, rv1, rv2, rv3, rv4, rv5, rv6, rv7, sm0, sm1, bl0, bl1, bl2, bl3, bl4, bl5, bl6, bl7, bl8, List.nil_append, List.cons_append, List.length_cons, List.length_nil, Nat.reduceBEq, Nat.reduceAdd, Nat.reduceSub, ta, tb, tn0, tn1, tn2, tn3, tn4, tn5, tn6, tn7, tn8, tn9, tn10, tn11, tn12, g_sw, zk_76, zl_76, zk_57, zl_57, zk_77, zl_77]
    rw [if_pos ok] at hk
    obtain ⟨x, rfl, hx⟩ := ok_of (by omega) ok
    rw [n_cl (n := x) (by omega)] at hk ⊢
    obtain ⟨s1, s2, s3⟩ := hS.1 x hx
    rw [coldR_pln hp (by omega), show 6 * 0 + x = x by omega] at s1
    rw [show 6 * 0 + x = x by omega] at s2
    rw [agedR_pln hp] at s3
    rw [s1, s2, s3]
    have zx : zin (nI x) 12 := n_zin (by omega) (by decide)
    refine ⟨fun q => absurd q (by decide), fun _ => ⟨fun e => ⟨zx, ?_⟩, fun e => ⟨fun e1 => ⟨zx, ?_⟩, fun e1 => ⟨fun e2 => ?_, fun e2 => ⟨fun e3 => ⟨zx, ?_⟩, fun e3 => ⟨fun e4 => ?_, fun e4 => ?_⟩⟩⟩⟩⟩⟩
    · rw [if_pos e] at hk; exact hk
    · rw [if_neg e, if_pos e1] at hk; exact hk
    · rw [show (6 : Int32) * nI x = nI (6 * x) from n_mul 6 x]
      refine p_digitsR rfl (by show _ ≤ 72; omega) (by decide) ?_
      dsimp only [x_int, x_lng, x_ild, x_lld, x_ald, x_ist, x_ast, x_lst, x_inc, x_ii, x_id, x_i, x_ll, x_ld, x_l, x_cmp, x_i2l, x_l2i, x_if, x_ic, x_dup, x_pop, x_dup2, x_gI, x_gL, x_gR, x_g1, x_g0, x_gP, x_pI, x_pZ, x_pL, x_pP, x_al, x_as, x_all, x_asl, x_alr, x_len, x_cpy, x_m2, x_m1, x_m2l, x_m1l, x_call, x_cv, x_ri, x_rz, x_rl, x_rv, zg, zset, zbef, zlong, zcat, cond_true, cond_false, List.take, List.drop, rv1, rv2, rv3, rv4, rv5, rv6, rv7, sm0, sm1, bl0, bl1, bl2, bl3, bl4, bl5, bl6, bl7, bl8, List.nil_append, List.cons_append, List.length_cons, List.length_nil, Nat.reduceBEq, Nat.reduceAdd, Nat.reduceSub, ta, tb, tn0, tn1, tn2, tn3, tn4, tn5, tn6, tn7, tn8, tn9, tn10, tn11, tn12]
      rw [if_neg e, if_neg e1, if_pos e2] at hk
      rw [dgn_congr (g := fun k => A.T.2.1 3 (6 * x + k)) (fun k hk => (hT.hand hx).2.2.2 k hk)]; exact hk
    · rw [if_neg e, if_neg e1, if_neg e2, if_pos e3] at hk; exact hk
    · rw [if_neg e, if_neg e1, if_neg e2, if_neg e3, if_pos e4] at hk
      show bX12_hand_89 K [some refR, some (.inl (nI x)), some (.inl w), some (.inl 0), some (.inl 0)] [] (I1, L, P)
      refine zfor (A.T.1 2) (fun i => [some refR, some (.inl (nI x)), some (.inl w), some (.inl (nI (zcount (fun r => decide (A.S 6 r = nI x)) i))), some (.inl (nI i))]) (fun _ => (I1, L, P)) (fun i hi self hs => ?_) (fun self => ?_)
      · have up : (A.S 6 i = nI x) → self [some refR, some (.inl (nI x)), some (.inl w), some (.inl (nI (zcount (fun r => decide (A.S 6 r = nI x)) i) + 1)), some (.inl (nI (i + 1)))] [] (I1, L, P) := fun c => by
          have e : zcount (fun r => decide (A.S 6 r = nI x)) (i + 1) = zcount (fun r => decide (A.S 6 r = nI x)) i + 1 := by
            show _ + (if decide (A.S 6 i = nI x) = true then 1 else 0) = _
            rw [if_pos (decide_eq_true c)]
          rw [n_succ, ← e]; exact hs
        have no : ¬ (A.S 6 i = nI x) → self [some refR, some (.inl (nI x)), some (.inl w), some (.inl (nI (zcount (fun r => decide (A.S 6 r = nI x)) i) + 0)), some (.inl (nI (i + 1)))] [] (I1, L, P) := fun c => by
          have e : zcount (fun r => decide (A.S 6 r = nI x)) (i + 1) = zcount (fun r => decide (A.S 6 r = nI x)) i := by
            show _ + (if decide (A.S 6 i = nI x) = true then 1 else 0) = _
            rw [if_neg (fun q => c (of_decide_eq_true q))]
            rfl
          rw [e] at hs
          rw [show nI (zcount (fun r => decide (A.S 6 r = nI x)) i) + 0 = nI (zcount (fun r => decide (A.S 6 r = nI x)) i) from Int32.add_zero _]
          exact hs
        obtain ⟨b1, b2, b3, b4, b5, b6, b7⟩ := hS.2.2.1 i hi
        rw [show 10 * 0 + i = i by omega] at b3 b4
        have zi : zin (nI i) 20 := n_zin (by omega) (by decide)
        dsimp only [x_int, x_lng, x_ild, x_lld, x_ald, x_ist, x_ast, x_lst, x_inc, x_ii, x_id, x_i, x_ll, x_ld, x_l, x_cmp, x_i2l, x_l2i, x_if, x_ic, x_dup, x_pop, x_dup2, x_gI, x_gL, x_gR, x_g1, x_g0, x_gP, x_pI, x_pZ, x_pL, x_pP, x_al, x_as, x_all, x_asl, x_alr, x_len, x_cpy, x_m2, x_m1, x_m2l, x_m1l, x_call, x_cv, x_ri, x_rz, x_rl, x_rv, zg, zset, zbef, zlong, zcat, cond_true, cond_false, List.take, List.drop, rv1, rv2, rv3, rv4, rv5, rv6, rv7, sm0, sm1, bl0, bl1, bl2, bl3, bl4, bl5, bl6, bl7, bl8, List.nil_append, List.cons_append, List.length_cons, List.length_nil, Nat.reduceBEq, Nat.reduceAdd, Nat.reduceSub, ta, tb, tn0, tn1, tn2, tn3, tn4, tn5, tn6, tn7, tn8, tn9, tn10, tn11, tn12, zk_81, zl_81, zk_82, zl_82, bX12_hand_125, bX12_hand_126]
        rw [n_cl (n := i) (by omega), b3, b4, n_succ i]
        refine ⟨fun c => absurd c (lt_go hT.1.2.2 (by omega) hi), fun _ => ⟨zi, fun c => ⟨zi, up, no⟩, fun c => no (fun q => ?_)⟩⟩
        rw [wB i hi c] at q
        have h0 := congrArg Int32.toInt q
        rw [n_toInt (by omega)] at h0
        have : (-1 : Int32).toInt = -1 := rfl
        omega
      · dsimp only [x_int, x_lng, x_ild, x_lld, x_ald, x_ist, x_ast, x_lst, x_inc, x_ii, x_id, x_i, x_ll, x_ld, x_l, x_cmp, x_i2l, x_l2i, x_if, x_ic, x_dup, x_pop, x_dup2, x_gI, x_gL, x_gR, x_g1, x_g0, x_gP, x_pI, x_pZ, x_pL, x_pP, x_al, x_as, x_all, x_asl, x_alr, x_len, x_cpy, x_m2, x_m1, x_m2l, x_m1l, x_call, x_cv, x_ri, x_rz, x_rl, x_rv, zg, zset, zbef, zlong, zcat, cond_true, cond_false, List.take, List.drop, rv1, rv2, rv3, rv4, rv5, rv6, rv7, sm0, sm1, bl0, bl1, bl2, bl3, bl4, bl5, bl6, bl7, bl8, List.nil_append, List.cons_append, List.length_cons, List.length_nil, Nat.reduceBEq, Nat.reduceAdd, Nat.reduceSub, ta, tb, tn0, tn1, tn2, tn3, tn4, tn5, tn6, tn7, tn8, tn9, tn10, tn11, tn12]
        exact ⟨fun _ => hk, fun c => absurd c (lt_out hT.1.2.2)⟩
    · rw [if_neg e, if_neg e1, if_neg e2, if_neg e3, if_neg e4] at hk; exact hk
  · dsimp only [x_int, x_lng, x_ild, x_lld, x_ald, x_ist, x_ast, x_lst, x_inc, x_ii, x_id, x_i, x_ll, x_ld, x_l, x_cmp, x_i2l, x_l2i, x_if, x_ic, x_dup, x_pop, x_dup2, x_gI, x_gL, x_gR, x_g1, x_g0, x_gP, x_pI, x_pZ, x_pL, x_pP, x_al, x_as, x_all, x_asl, x_alr, x_len, x_cpy, x_m2, x_m1, x_m2l, x_m1l, x_call, x_cv, x_ri, x_rz, x_rl, x_rv, zg, zset, zbef, zlong, zcat, cond_true, cond_false, List.take, List.drop, rv1, rv2, rv3, rv4, rv5, rv6, rv7, sm0, sm1, bl0, bl1, bl2, bl3, bl4, bl5, bl6, bl7, bl8, List.nil_append, List.cons_append, List.length_cons, List.length_nil, Nat.reduceBEq, Nat.reduceAdd, Nat.reduceSub, ta, tb, tn0, tn1, tn2, tn3, tn4, tn5, tn6, tn7, tn8, tn9, tn10, tn11, tn12]
    rw [if_neg no] at hk
    exact ⟨fun _ => hk, fun q => absurd rfl q⟩
-- wood
def v_wood (A : aA) (h w : Int32) : Int32 := if okN (A.T.1 1) h then (if w = 0 then A.T.2.1 5 h.toNatClampNeg else if w = 1 then A.S 12 h.toNatClampNeg else if w = 2 then A.S 2 h.toNatClampNeg else if w = 3 then nI (zcount (aFresh A.S h) (A.T.1 2)) else -1) else -1
theorem c_wood {K : zQ} {I : zI} {L : zJ} {P : zP} {A : aA} {h w : Int32} (hC : RC A I P) (hk : K [.inl (v_wood A h w)] (I, L, P)) : mX11_wood K [kbR, .inl h, .inl w] (I, L, P) := by
  obtain ⟨t, hT, h11, h8, hS⟩ := hC.b
  have w4 := hT.w4
  unfold v_wood at hk
  show bX11_wood_0 K [some (.inr (.inr (11,0))), some (.inl h), some (.inl w)] [] (I, L, P)
  unfold bX11_wood_0
  dsimp only [x_int, x_lng, x_ild, x_lld, x_ald, x_ist, x_ast, x_lst, x_inc, x_ii, x_id, x_i, x_ll, x_ld, x_l, x_cmp, x_i2l, x_l2i, x_if, x_ic, x_dup, x_pop, x_dup2, x_gI, x_gL, x_gR, x_g1, x_g0, x_gP, x_pI, x_pZ, x_pL, x_pP, x_al, x_as, x_all, x_asl, x_alr, x_len, x_cpy, x_m2, x_m1, x_m2l, x_m1l, x_call, x_cv, x_ri, x_rz, x_rl, x_rv, zg, zset, zbef, zlong, zcat, cond_true, cond_false, List.take, List.drop, rv1, rv2, rv3, rv4, rv5, rv6, rv7, sm0, sm1, bl0, bl1, bl2, bl3, bl4, bl5, bl6, bl7, bl8, List.nil_append, List.cons_append, List.length_cons, List.length_nil, Nat.reduceBEq, Nat.reduceAdd, Nat.reduceSub, ta, tb, tn0, tn1, tn2, tn3, tn4, tn5, tn6, tn7, tn8, tn9, tn10, tn11, tn12]
  refine p_isWoodC hT h11 (fun ok => ?_) (fun no => ?_)
  · dsimp only [x_int, x_lng, x_ild, x_lld, x_ald, x_ist, x_ast, x_lst, x_inc, x_ii, x_id, x_i, x_ll, x_ld, x_l, x_cmp, x_i2l, x_l2i, x_if, x_ic, x_dup, x_pop, x_dup2, x_gI, x_gL, x_gR, x_g1, x_g0, x_gP, x_pI, x_pZ, x_pL, x_pP, x_al, x_as, x_all, x_asl, x_alr, x_len, x_cpy, x_m2, x_m1, x_m2l, x_m1l, x_call, x_cv, x_ri, x_rz, x_rl, x_rv, zg, zset, zbef, zlong, zcat, cond_true, cond_false, List.take, List.drop, rv1, rv2, rv3, rv4, rv5, rv6, rv7, sm0, sm1, bl0, bl1, bl2, bl3, bl4, bl5, bl6, bl7, bl8, List.nil_append, List.cons_append, List.length_cons, List.length_nil, Nat.reduceBEq, Nat.reduceAdd, Nat.reduceSub, ta, tb, tn0, tn1, tn2, tn3, tn4, tn5, tn6, tn7, tn8, tn9, tn10, tn11, tn12, g_sw, zk_34, zl_34, zk_35, zl_35]
    rw [if_pos ok] at hk
    obtain ⟨x, rfl, hx⟩ := ok_of (by omega) ok
    rw [n_cl (n := x) (by omega)] at hk ⊢
    obtain ⟨s1, s2⟩ := hS.2.1 x hx
    rw [s1, s2, h11, (hT.wood hx).2.1]
    have zx : zin (nI x) 4 := n_zin (by omega) (by decide)
    refine ⟨fun q => absurd q (by decide), fun _ => ⟨fun e => ⟨hT.1, zx, ?_⟩, fun e => ⟨fun e1 => ⟨zx, ?_⟩, fun e1 => ⟨fun e2 => ⟨zx, ?_⟩, fun e2 => ⟨fun e3 => p_freshOn h8 hT hS ?_, fun e3 => ?_⟩⟩⟩⟩⟩
    · rw [if_pos e] at hk; exact hk
    · rw [if_neg e, if_pos e1] at hk; exact hk
    · rw [if_neg e, if_neg e1, if_pos e2] at hk; exact hk
    · dsimp only [x_int, x_lng, x_ild, x_lld, x_ald, x_ist, x_ast, x_lst, x_inc, x_ii, x_id, x_i, x_ll, x_ld, x_l, x_cmp, x_i2l, x_l2i, x_if, x_ic, x_dup, x_pop, x_dup2, x_gI, x_gL, x_gR, x_g1, x_g0, x_gP, x_pI, x_pZ, x_pL, x_pP, x_al, x_as, x_all, x_asl, x_alr, x_len, x_cpy, x_m2, x_m1, x_m2l, x_m1l, x_call, x_cv, x_ri, x_rz, x_rl, x_rv, zg, zset, zbef, zlong, zcat, cond_true, cond_false, List.take, List.drop, rv1, rv2, rv3, rv4, rv5, rv6, rv7, sm0, sm1, bl0, bl1, bl2, bl3, bl4, bl5, bl6, bl7, bl8, List.nil_append, List.cons_append, List.length_cons, List.length_nil, Nat.reduceBEq, Nat.reduceAdd, Nat.reduceSub, ta, tb, tn0, tn1, tn2, tn3, tn4, tn5, tn6, tn7, tn8, tn9, tn10, tn11, tn12]
      refine p_bitCount ?_
      dsimp only [x_int, x_lng, x_ild, x_lld, x_ald, x_ist, x_ast, x_lst, x_inc, x_ii, x_id, x_i, x_ll, x_ld, x_l, x_cmp, x_i2l, x_l2i, x_if, x_ic, x_dup, x_pop, x_dup2, x_gI, x_gL, x_gR, x_g1, x_g0, x_gP, x_pI, x_pZ, x_pL, x_pP, x_al, x_as, x_all, x_asl, x_alr, x_len, x_cpy, x_m2, x_m1, x_m2l, x_m1l, x_call, x_cv, x_ri, x_rz, x_rl, x_rv, zg, zset, zbef, zlong, zcat, cond_true, cond_false, List.take, List.drop, rv1, rv2, rv3, rv4, rv5, rv6, rv7, sm0, sm1, bl0, bl1, bl2, bl3, bl4, bl5, bl6, bl7, bl8, List.nil_append, List.cons_append, List.length_cons, List.length_nil, Nat.reduceBEq, Nat.reduceAdd, Nat.reduceSub, ta, tb, tn0, tn1, tn2, tn3, tn4, tn5, tn6, tn7, tn8, tn9, tn10, tn11, tn12]
      rw [if_neg e, if_neg e1, if_neg e2, if_pos e3] at hk
      rw [bsB_pop _ hT.r10]; exact hk
    · rw [if_neg e, if_neg e1, if_neg e2, if_neg e3] at hk; exact hk
  · dsimp only [x_int, x_lng, x_ild, x_lld, x_ald, x_ist, x_ast, x_lst, x_inc, x_ii, x_id, x_i, x_ll, x_ld, x_l, x_cmp, x_i2l, x_l2i, x_if, x_ic, x_dup, x_pop, x_dup2, x_gI, x_gL, x_gR, x_g1, x_g0, x_gP, x_pI, x_pZ, x_pL, x_pP, x_al, x_as, x_all, x_asl, x_alr, x_len, x_cpy, x_m2, x_m1, x_m2l, x_m1l, x_call, x_cv, x_ri, x_rz, x_rl, x_rv, zg, zset, zbef, zlong, zcat, cond_true, cond_false, List.take, List.drop, rv1, rv2, rv3, rv4, rv5, rv6, rv7, sm0, sm1, bl0, bl1, bl2, bl3, bl4, bl5, bl6, bl7, bl8, List.nil_append, List.cons_append, List.length_cons, List.length_nil, Nat.reduceBEq, Nat.reduceAdd, Nat.reduceSub, ta, tb, tn0, tn1, tn2, tn3, tn4, tn5, tn6, tn7, tn8, tn9, tn10, tn11, tn12]
    rw [if_neg no] at hk
    exact ⟨fun _ => hk, fun q => absurd rfl q⟩
theorem r_wood {K : zQ} {I : zI} {L : zJ} {P : zP} {A : aA} {h w : Int32} (wQ : WQ A.T A.S) (hR : RR A I L) (hK : ∀ (I' : zI) (L' : zJ), frR I I' → zeLr L L' → K [.inl (v_wood A h w)] (I', L', P)) : mX12_wood K [refR, .inl h, .inl w] (I, L, P) := by
  show bX12_wood_0 K [some (.inr (.inr (12,0))), some (.inl h), some (.inl w), none, none] [] (I, L, P)
  unfold bX12_wood_0
  obtain ⟨I1, e9, hR1, f1⟩ := r_thr P hR
  dsimp only [x_ald, x_int, x_pI, zg, Nat.reduceBEq, cond_true]
  rw [e9]
  have hk := hK I1 L f1 zeLr.rf
  unfold v_wood at hk
  have hT := hR1.1
  have hS := hR1.2.1
  have hp := hR1.2.2.1
  have w4 := hT.w4
  have r10 := hT.r10
  dsimp only [x_int, x_lng, x_ild, x_lld, x_ald, x_ist, x_ast, x_lst, x_inc, x_ii, x_id, x_i, x_ll, x_ld, x_l, x_cmp, x_i2l, x_l2i, x_if, x_ic, x_dup, x_pop, x_dup2, x_gI, x_gL, x_gR, x_g1, x_g0, x_gP, x_pI, x_pZ, x_pL, x_pP, x_al, x_as, x_all, x_asl, x_alr, x_len, x_cpy, x_m2, x_m1, x_m2l, x_m1l, x_call, x_cv, x_ri, x_rz, x_rl, x_rv, zg, zset, zbef, zlong, zcat, cond_true, cond_false, List.take, List.drop, rv1, rv2, rv3, rv4, rv5, rv6, rv7, sm0, sm1, bl0, bl1, bl2, bl3, bl4, bl5, bl6, bl7, bl8, List.nil_append, List.cons_append, List.length_cons, List.length_nil, Nat.reduceBEq, Nat.reduceAdd, Nat.reduceSub, ta, tb, tn0, tn1, tn2, tn3, tn4, tn5, tn6, tn7, tn8, tn9, tn10, tn11, tn12]
  refine p_isWoodR hT (fun ok => ?_) (fun no => ?_)
  · dsimp only [x_int, x_lng, x_ild, x_lld, x_ald, x_ist, x_ast, x_lst, x_inc, x_ii, x_id, x_i, x_ll, x_ld, x_l, x_cmp, x_i2l, x_l2i, x_if, x_ic, x_dup, x_pop, x_dup2, x_gI, x_gL, x_gR, x_g1, x_g0, x_gP, x_pI, x_pZ, x_pL, x_pP, x_al, x_as, x_all, x_asl, x_alr, x_len, x_cpy, x_m2, x_m1, x_m2l, x_m1l, x_call, x_cv, x_ri, x_rz, x_rl, x_rv, zg, zset, zbef, zlong, zcat, cond_true, cond_false, List.take, List.drop, rv1, rv2, rv3, rv4, rv5, rv6, rv7, sm0, sm1, bl0, bl1, bl2, bl3, bl4, bl5, bl6, bl7, bl8, List.nil_append, List.cons_append, List.length_cons, List.length_nil, Nat.reduceBEq, Nat.reduceAdd, Nat.reduceSub, ta, tb, tn0, tn1, tn2, tn3, tn4, tn5, tn6, tn7, tn8, tn9, tn10, tn11, tn12, g_sw, zk_60, zl_60, zk_61, zl_61, zk_78, zl_78]
    rw [if_pos ok] at hk
    obtain ⟨x, rfl, hx⟩ := ok_of (by omega) ok
    rw [n_cl (n := x) (by omega)] at hk ⊢
    obtain ⟨s1, s2⟩ := hS.2.1 x hx
    rw [hardR_pln hp] at s1
    rw [show 4 * 0 + x = x by omega] at s2
    rw [s1, s2, (hT.wood hx).2.1]
    have zx : zin (nI x) 8 := n_zin (by omega) (by decide)
    refine ⟨fun q => absurd q (by decide), fun _ => ⟨fun e => ⟨zx, ?_⟩, fun e => ⟨fun e1 => ⟨zx, ?_⟩, fun e1 => ⟨fun e2 => ⟨zx, ?_⟩, fun e2 => ⟨fun e3 => ?_, fun e3 => ?_⟩⟩⟩⟩⟩
    · rw [if_pos e] at hk; exact hk
    · rw [if_neg e, if_pos e1] at hk; exact hk
    · rw [if_neg e, if_neg e1, if_pos e2] at hk; exact hk
    · rw [if_neg e, if_neg e1, if_neg e2, if_pos e3] at hk
      show bX12_wood_72 K [some refR, some (.inl (nI x)), some (.inl w), some (.inl 0), some (.inl 0)] [] (I1, L, P)
      refine zfor (A.T.1 2) (fun i => [some refR, some (.inl (nI x)), some (.inl w), some (.inl (nI (zcount (fun r => decide (¬ A.S 5 r = 0 ∧ ¬ A.S 7 r = 1 ∧ A.S 3 r = nI x)) i))), some (.inl (nI i))]) (fun _ => (I1, L, P)) (fun i hi self hs => ?_) (fun self => ?_)
      · have up : (¬ A.S 5 i = 0 ∧ ¬ A.S 7 i = 1 ∧ A.S 3 i = nI x) → self [some refR, some (.inl (nI x)), some (.inl w), some (.inl (nI (zcount (fun r => decide (¬ A.S 5 r = 0 ∧ ¬ A.S 7 r = 1 ∧ A.S 3 r = nI x)) i) + 1)), some (.inl (nI (i + 1)))] [] (I1, L, P) := fun c => by
          have e : zcount (fun r => decide (¬ A.S 5 r = 0 ∧ ¬ A.S 7 r = 1 ∧ A.S 3 r = nI x)) (i + 1) = zcount (fun r => decide (¬ A.S 5 r = 0 ∧ ¬ A.S 7 r = 1 ∧ A.S 3 r = nI x)) i + 1 := by
            show _ + (if decide (¬ A.S 5 i = 0 ∧ ¬ A.S 7 i = 1 ∧ A.S 3 i = nI x) = true then 1 else 0) = _
            rw [if_pos (decide_eq_true c)]
          rw [n_succ, ← e]; exact hs
        have no : ¬ (¬ A.S 5 i = 0 ∧ ¬ A.S 7 i = 1 ∧ A.S 3 i = nI x) → self [some refR, some (.inl (nI x)), some (.inl w), some (.inl (nI (zcount (fun r => decide (¬ A.S 5 r = 0 ∧ ¬ A.S 7 r = 1 ∧ A.S 3 r = nI x)) i) + 0)), some (.inl (nI (i + 1)))] [] (I1, L, P) := fun c => by
          have e : zcount (fun r => decide (¬ A.S 5 r = 0 ∧ ¬ A.S 7 r = 1 ∧ A.S 3 r = nI x)) (i + 1) = zcount (fun r => decide (¬ A.S 5 r = 0 ∧ ¬ A.S 7 r = 1 ∧ A.S 3 r = nI x)) i := by
            show _ + (if decide (¬ A.S 5 i = 0 ∧ ¬ A.S 7 i = 1 ∧ A.S 3 i = nI x) = true then 1 else 0) = _
            rw [if_neg (fun q => c (of_decide_eq_true q))]
            rfl
          rw [e] at hs
          rw [show nI (zcount (fun r => decide (¬ A.S 5 r = 0 ∧ ¬ A.S 7 r = 1 ∧ A.S 3 r = nI x)) i) + 0 = nI (zcount (fun r => decide (¬ A.S 5 r = 0 ∧ ¬ A.S 7 r = 1 ∧ A.S 3 r = nI x)) i) from Int32.add_zero _]
          exact hs
        obtain ⟨b1, b2, b3, b4, b5, b6, b7⟩ := hS.2.2.1 i hi
        rw [show 10 * 0 + i = i by omega] at b1 b3 b5
        have zi : zin (nI i) 20 := n_zin (by omega) (by decide)
        dsimp only [x_int, x_lng, x_ild, x_lld, x_ald, x_ist, x_ast, x_lst, x_inc, x_ii, x_id, x_i, x_ll, x_ld, x_l, x_cmp, x_i2l, x_l2i, x_if, x_ic, x_dup, x_pop, x_dup2, x_gI, x_gL, x_gR, x_g1, x_g0, x_gP, x_pI, x_pZ, x_pL, x_pP, x_al, x_as, x_all, x_asl, x_alr, x_len, x_cpy, x_m2, x_m1, x_m2l, x_m1l, x_call, x_cv, x_ri, x_rz, x_rl, x_rv, zg, zset, zbef, zlong, zcat, cond_true, cond_false, List.take, List.drop, rv1, rv2, rv3, rv4, rv5, rv6, rv7, sm0, sm1, bl0, bl1, bl2, bl3, bl4, bl5, bl6, bl7, bl8, List.nil_append, List.cons_append, List.length_cons, List.length_nil, Nat.reduceBEq, Nat.reduceAdd, Nat.reduceSub, ta, tb, tn0, tn1, tn2, tn3, tn4, tn5, tn6, tn7, tn8, tn9, tn10, tn11, tn12, zk_81, zl_81, zk_79, zl_79, zk_83, zl_83, bX12_wood_117, bX12_wood_118]
        rw [n_cl (n := i) (by omega), b1, b3, b5, n_succ i]
        obtain ⟨q5, q7⟩ := wQ i hi
        refine ⟨fun c => absurd c (lt_go hT.1.2.2 (by omega) hi), fun _ => ⟨zi, fun c => no (fun q => ?_), fun c => ⟨zi, fun d => ⟨zi, fun d2 => up ⟨?_, ?_, d⟩, fun d2 => no (fun q => q.2.1 (q7.resolve_left d2))⟩, fun d => no (fun q => d q.2.2)⟩⟩⟩
        · rcases q5 with z | z | z
          · exact q.1 z
          · rw [z] at c; exact absurd c (by decide)
          · rw [z] at c; exact absurd c (by decide)
        · intro z; rw [z] at c; exact c (Int32.le_refl _)
        · rw [d2]; decide
      · dsimp only [x_int, x_lng, x_ild, x_lld, x_ald, x_ist, x_ast, x_lst, x_inc, x_ii, x_id, x_i, x_ll, x_ld, x_l, x_cmp, x_i2l, x_l2i, x_if, x_ic, x_dup, x_pop, x_dup2, x_gI, x_gL, x_gR, x_g1, x_g0, x_gP, x_pI, x_pZ, x_pL, x_pP, x_al, x_as, x_all, x_asl, x_alr, x_len, x_cpy, x_m2, x_m1, x_m2l, x_m1l, x_call, x_cv, x_ri, x_rz, x_rl, x_rv, zg, zset, zbef, zlong, zcat, cond_true, cond_false, List.take, List.drop, rv1, rv2, rv3, rv4, rv5, rv6, rv7, sm0, sm1, bl0, bl1, bl2, bl3, bl4, bl5, bl6, bl7, bl8, List.nil_append, List.cons_append, List.length_cons, List.length_nil, Nat.reduceBEq, Nat.reduceAdd, Nat.reduceSub, ta, tb, tn0, tn1, tn2, tn3, tn4, tn5, tn6, tn7, tn8, tn9, tn10, tn11, tn12]
        exact ⟨fun _ => hk, fun c => absurd c (lt_out hT.1.2.2)⟩
    · rw [if_neg e, if_neg e1, if_neg e2, if_neg e3] at hk; exact hk
  · dsimp only [x_int, x_lng, x_ild, x_lld, x_ald, x_ist, x_ast, x_lst, x_inc, x_ii, x_id, x_i, x_ll, x_ld, x_l, x_cmp, x_i2l, x_l2i, x_if, x_ic, x_dup, x_pop, x_dup2, x_gI, x_gL, x_gR, x_g1, x_g0, x_gP, x_pI, x_pZ, x_pL, x_pP, x_al, x_as, x_all, x_asl, x_alr, x_len, x_cpy, x_m2, x_m1, x_m2l, x_m1l, x_call, x_cv, x_ri, x_rz, x_rl, x_rv, zg, zset, zbef, zlong, zcat, cond_true, cond_false, List.take, List.drop, rv1, rv2, rv3, rv4, rv5, rv6, rv7, sm0, sm1, bl0, bl1, bl2, bl3, bl4, bl5, bl6, bl7, bl8, List.nil_append, List.cons_append, List.length_cons, List.length_nil, Nat.reduceBEq, Nat.reduceAdd, Nat.reduceSub, ta, tb, tn0, tn1, tn2, tn3, tn4, tn5, tn6, tn7, tn8, tn9, tn10, tn11, tn12]
    rw [if_neg no] at hk
    exact ⟨fun _ => hk, fun q => absurd rfl q⟩
