-- apart
def apT (T : aT) (a b : Nat) : Int32 := farf T (fun k => T.2.1 3 (6 * b + k)) a
theorem p_apartH {K : zQ} {I : zI} {L : zJ} {P : zP} {t : Nat} {T : aT} {a b : Nat} (hT : CT I t T) (ha : a < T.1 0) (hb : b < T.1 0) (hK : K [.inl (apT T a b)] (I, L, P)) : mX1_apartFrom K [.inr (.inr (1, 6 * t + a)), .inr (.inr (14, 6 * t + b))] (I, L, P) := by
  refine p_apartFrom rfl rfl ?_
  rw [apn_congr (e := fun k => T.2.1 3 (6 * a + k) - T.2.1 3 (6 * b + k)) (fun k hk => by rw [(hT.hand ha).2.2.2 k hk, (hT.hand hb).2.2.2 k hk])]
  exact hK
theorem p_apartOf {K : zQ} {I : zI} {L : zJ} {P : zP} {T : aT} {a b : Nat} (hT : RT I T) (ha : a < T.1 0) (hb : b < T.1 0) (hK : K [.inl (apT T a b)] (I, L, P)) : mX12_apartOf K [refR, .inl (nI a), .inl (nI b)] (I, L, P) := by
  have h6 := hT.h6
  show bX12_apartOf_5 K [some refR, some (.inl (nI a)), some (.inl (nI b)), some (.inl 0), some (.inl 0), none] [] (I, L, P)
  refine zinv 6 (fun n Z M => ∃ z5 : Option zV, Z = [some refR, some (.inl (nI a)), some (.inl (nI b)), some (.inl (apn (fun k => T.2.1 3 (6 * a + k) - T.2.1 3 (6 * b + k)) n)), some (.inl (nI n)), z5] ∧ M = (I, L, P)) ?_ ?_ ⟨none, rfl, rfl⟩
  · rintro n Z M hn ⟨z5, rfl, rfl⟩ self hself
    dsimp only [x_int, x_lng, x_ild, x_lld, x_ald, x_ist, x_ast, x_lst, x_inc, x_ii, x_id, x_i, x_ll, x_ld, x_l, x_cmp, x_i2l, x_l2i, x_if, x_ic, x_dup, x_pop, x_dup2, x_gI, x_gL, x_gR, x_g1, x_g0, x_gP, x_pI, x_pZ, x_pL, x_pP, x_al, x_as, x_all, x_asl, x_alr, x_len, x_cpy, x_m2, x_m1, x_m2l, x_m1l, x_call, x_cv, x_ri, x_rz, x_rl, x_rv, zg, zset, zbef, zlong, zcat, cond_true, cond_false, List.take, List.drop, rv1, rv2, rv3, rv4, rv5, rv6, rv7, sm0, sm1, bl0, bl1, bl2, bl3, bl4, bl5, bl6, bl7, bl8, List.nil_append, List.cons_append, List.length_cons, List.length_nil, Nat.reduceBEq, Nat.reduceAdd, Nat.reduceSub, ta, tb, tn0, tn1, tn2, tn3, tn4, tn5, tn6, tn7, tn8, tn9, tn10, tn11, tn12, zk_58, zl_58, bX12_apartOf_53]
    rw [n6, n6, n_cl (n := 6 * a + n) (by omega), n_cl (n := 6 * b + n) (by omega), (hT.hand ha).2.2.2 n hn, (hT.hand hb).2.2.2 n hn, n_succ n]
    refine ⟨fun c => absurd c (lt_go (n := 6) rfl (by omega) hn), fun _ => ⟨n_zin (by omega) (by decide), n_zin (by omega) (by decide), fun c => hself _ _ ⟨some (.inl (T.2.1 3 (6 * a + n) - T.2.1 3 (6 * b + n))), ?_, rfl⟩, fun c => hself _ _ ⟨some (.inl (T.2.1 3 (6 * a + n) - T.2.1 3 (6 * b + n))), ?_, rfl⟩⟩⟩
    · have e : apn (fun k => T.2.1 3 (6 * a + k) - T.2.1 3 (6 * b + k)) (n + 1) = apn (fun k => T.2.1 3 (6 * a + k) - T.2.1 3 (6 * b + k)) n + (T.2.1 3 (6 * a + n) - T.2.1 3 (6 * b + n)) := by
        show _ + (if 0 ≤ T.2.1 3 (6 * a + n) - T.2.1 3 (6 * b + n) then _ else _) = _
        rw [if_pos c]
      rw [e]
    · have e : apn (fun k => T.2.1 3 (6 * a + k) - T.2.1 3 (6 * b + k)) (n + 1) = apn (fun k => T.2.1 3 (6 * a + k) - T.2.1 3 (6 * b + k)) n + -(T.2.1 3 (6 * a + n) - T.2.1 3 (6 * b + n)) := by
        show _ + (if 0 ≤ T.2.1 3 (6 * a + n) - T.2.1 3 (6 * b + n) then _ else _) = _
        rw [if_neg c, Int32.zero_sub]
      rw [e]
  · rintro Z M ⟨z5, rfl, rfl⟩ self
    exact And.intro (fun _ => hK) (fun c => absurd c (lt_out (n := 6) rfl))
def v_apart (A : aA) (a b : Int32) : Int32 := if okN (A.T.1 0) a then (if okN (A.T.1 0) b then apT A.T a.toNatClampNeg b.toNatClampNeg else -1) else -1
theorem c_apart {K : zQ} {I : zI} {L : zJ} {P : zP} {A : aA} {a b : Int32} (hC : RC A I P) (hk : K [.inl (v_apart A a b)] (I, L, P)) : mX11_apart K [kbR, .inl a, .inl b] (I, L, P) := by
  obtain ⟨t, hT, h11, h8, hS⟩ := hC.b
  have h6 := hT.h6
  unfold v_apart at hk
  show bX11_apart_0 K [some (.inr (.inr (11,0))), some (.inl a), some (.inl b)] [] (I, L, P)
  unfold bX11_apart_0
  dsimp only [x_int, x_lng, x_ild, x_lld, x_ald, x_ist, x_ast, x_lst, x_inc, x_ii, x_id, x_i, x_ll, x_ld, x_l, x_cmp, x_i2l, x_l2i, x_if, x_ic, x_dup, x_pop, x_dup2, x_gI, x_gL, x_gR, x_g1, x_g0, x_gP, x_pI, x_pZ, x_pL, x_pP, x_al, x_as, x_all, x_asl, x_alr, x_len, x_cpy, x_m2, x_m1, x_m2l, x_m1l, x_call, x_cv, x_ri, x_rz, x_rl, x_rv, zg, zset, zbef, zlong, zcat, cond_true, cond_false, List.take, List.drop, rv1, rv2, rv3, rv4, rv5, rv6, rv7, sm0, sm1, bl0, bl1, bl2, bl3, bl4, bl5, bl6, bl7, bl8, List.nil_append, List.cons_append, List.length_cons, List.length_nil, Nat.reduceBEq, Nat.reduceAdd, Nat.reduceSub, ta, tb, tn0, tn1, tn2, tn3, tn4, tn5, tn6, tn7, tn8, tn9, tn10, tn11, tn12]
  refine p_isHandC hT h11 (fun ok => ?_) (fun no => ?_)
  · dsimp only [x_int, x_lng, x_ild, x_lld, x_ald, x_ist, x_ast, x_lst, x_inc, x_ii, x_id, x_i, x_ll, x_ld, x_l, x_cmp, x_i2l, x_l2i, x_if, x_ic, x_dup, x_pop, x_dup2, x_gI, x_gL, x_gR, x_g1, x_g0, x_gP, x_pI, x_pZ, x_pL, x_pP, x_al, x_as, x_all, x_asl, x_alr, x_len, x_cpy, x_m2, x_m1, x_m2l, x_m1l, x_call, x_cv, x_ri, x_rz, x_rl, x_rv, zg, zset, zbef, zlong, zcat, cond_true, cond_false, List.take, List.drop, rv1, rv2, rv3, rv4, rv5, rv6, rv7, sm0, sm1, bl0, bl1, bl2, bl3, bl4, bl5, bl6, bl7, bl8, List.nil_append, List.cons_append, List.length_cons, List.length_nil, Nat.reduceBEq, Nat.reduceAdd, Nat.reduceSub, ta, tb, tn0, tn1, tn2, tn3, tn4, tn5, tn6, tn7, tn8, tn9, tn10, tn11, tn12]
    rw [if_pos ok] at hk
    refine ⟨fun q => absurd q (by decide), fun _ => p_isHandC hT h11 (fun ok2 => ?_) (fun no => ?_)⟩
    · dsimp only [x_int, x_lng, x_ild, x_lld, x_ald, x_ist, x_ast, x_lst, x_inc, x_ii, x_id, x_i, x_ll, x_ld, x_l, x_cmp, x_i2l, x_l2i, x_if, x_ic, x_dup, x_pop, x_dup2, x_gI, x_gL, x_gR, x_g1, x_g0, x_gP, x_pI, x_pZ, x_pL, x_pP, x_al, x_as, x_all, x_asl, x_alr, x_len, x_cpy, x_m2, x_m1, x_m2l, x_m1l, x_call, x_cv, x_ri, x_rz, x_rl, x_rv, zg, zset, zbef, zlong, zcat, cond_true, cond_false, List.take, List.drop, rv1, rv2, rv3, rv4, rv5, rv6, rv7, sm0, sm1, bl0, bl1, bl2, bl3, bl4, bl5, bl6, bl7, bl8, List.nil_append, List.cons_append, List.length_cons, List.length_nil, Nat.reduceBEq, Nat.reduceAdd, Nat.reduceSub, ta, tb, tn0, tn1, tn2, tn3, tn4, tn5, tn6, tn7, tn8, tn9, tn10, tn11, tn12, zk_14, zl_14, zl_43, bX11_apart_44]
      rw [if_pos ok2] at hk
      obtain ⟨x, rfl, hx⟩ := ok_of (by omega) ok
      obtain ⟨y, rfl, hy⟩ := ok_of (by omega) ok2
      rw [n_cl (n := x) (by omega), n_cl (n := y) (by omega)] at hk ⊢
      rw [h11]
      exact ⟨fun q => absurd q (by decide), fun _ => ⟨hT.1, n_zin (by omega) (by decide), hT.1, n_zin (by omega) (by decide), p_apartH hT hx hy hk⟩⟩
    · dsimp only [x_int, x_lng, x_ild, x_lld, x_ald, x_ist, x_ast, x_lst, x_inc, x_ii, x_id, x_i, x_ll, x_ld, x_l, x_cmp, x_i2l, x_l2i, x_if, x_ic, x_dup, x_pop, x_dup2, x_gI, x_gL, x_gR, x_g1, x_g0, x_gP, x_pI, x_pZ, x_pL, x_pP, x_al, x_as, x_all, x_asl, x_alr, x_len, x_cpy, x_m2, x_m1, x_m2l, x_m1l, x_call, x_cv, x_ri, x_rz, x_rl, x_rv, zg, zset, zbef, zlong, zcat, cond_true, cond_false, List.take, List.drop, rv1, rv2, rv3, rv4, rv5, rv6, rv7, sm0, sm1, bl0, bl1, bl2, bl3, bl4, bl5, bl6, bl7, bl8, List.nil_append, List.cons_append, List.length_cons, List.length_nil, Nat.reduceBEq, Nat.reduceAdd, Nat.reduceSub, ta, tb, tn0, tn1, tn2, tn3, tn4, tn5, tn6, tn7, tn8, tn9, tn10, tn11, tn12, bX11_apart_43, bX11_apart_44]
      rw [if_neg no] at hk
      exact ⟨fun _ => hk, fun q => absurd rfl q⟩
  · dsimp only [x_int, x_lng, x_ild, x_lld, x_ald, x_ist, x_ast, x_lst, x_inc, x_ii, x_id, x_i, x_ll, x_ld, x_l, x_cmp, x_i2l, x_l2i, x_if, x_ic, x_dup, x_pop, x_dup2, x_gI, x_gL, x_gR, x_g1, x_g0, x_gP, x_pI, x_pZ, x_pL, x_pP, x_al, x_as, x_all, x_asl, x_alr, x_len, x_cpy, x_m2, x_m1, x_m2l, x_m1l, x_call, x_cv, x_ri, x_rz, x_rl, x_rv, zg, zset, zbef, zlong, zcat, cond_true, cond_false, List.take, List.drop, rv1, rv2, rv3, rv4, rv5, rv6, rv7, sm0, sm1, bl0, bl1, bl2, bl3, bl4, bl5, bl6, bl7, bl8, List.nil_append, List.cons_append, List.length_cons, List.length_nil, Nat.reduceBEq, Nat.reduceAdd, Nat.reduceSub, ta, tb, tn0, tn1, tn2, tn3, tn4, tn5, tn6, tn7, tn8, tn9, tn10, tn11, tn12, bX11_apart_43, bX11_apart_44]
    rw [if_neg no] at hk
    exact ⟨fun _ => hk, fun q => absurd rfl q⟩
theorem r_apart {K : zQ} {I : zI} {L : zJ} {P : zP} {A : aA} {a b : Int32} (hR : RR A I L) (hK : ∀ (I' : zI) (L' : zJ), frR I I' → zeLr L L' → K [.inl (v_apart A a b)] (I', L', P)) : mX12_apart K [refR, .inl a, .inl b] (I, L, P) := by
  show bX12_apart_0 K [some (.inr (.inr (12,0))), some (.inl a), some (.inl b)] [] (I, L, P)
  unfold bX12_apart_0
  obtain ⟨I1, e9, hR1, f1⟩ := r_thr P hR
  dsimp only [x_ald, x_int, x_pI, zg, Nat.reduceBEq, cond_true]
  rw [e9]
  have hk := hK I1 L f1 zeLr.rf
  unfold v_apart at hk
  have hT := hR1.1
  have h6 := hT.h6
  dsimp only [x_int, x_lng, x_ild, x_lld, x_ald, x_ist, x_ast, x_lst, x_inc, x_ii, x_id, x_i, x_ll, x_ld, x_l, x_cmp, x_i2l, x_l2i, x_if, x_ic, x_dup, x_pop, x_dup2, x_gI, x_gL, x_gR, x_g1, x_g0, x_gP, x_pI, x_pZ, x_pL, x_pP, x_al, x_as, x_all, x_asl, x_alr, x_len, x_cpy, x_m2, x_m1, x_m2l, x_m1l, x_call, x_cv, x_ri, x_rz, x_rl, x_rv, zg, zset, zbef, zlong, zcat, cond_true, cond_false, List.take, List.drop, rv1, rv2, rv3, rv4, rv5, rv6, rv7, sm0, sm1, bl0, bl1, bl2, bl3, bl4, bl5, bl6, bl7, bl8, List.nil_append, List.cons_append, List.length_cons, List.length_nil, Nat.reduceBEq, Nat.reduceAdd, Nat.reduceSub, ta, tb, tn0, tn1, tn2, tn3, tn4, tn5, tn6, tn7, tn8, tn9, tn10, tn11, tn12]
  refine p_isHandR hT (fun ok => ?_) (fun no => ?_)
  · dsimp only [x_int, x_lng, x_ild, x_lld, x_ald, x_ist, x_ast, x_lst, x_inc, x_ii, x_id, x_i, x_ll, x_ld, x_l, x_cmp, x_i2l, x_l2i, x_if, x_ic, x_dup, x_pop, x_dup2, x_gI, x_gL, x_gR, x_g1, x_g0, x_gP, x_pI, x_pZ, x_pL, x_pP, x_al, x_as, x_all, x_asl, x_alr, x_len, x_cpy, x_m2, x_m1, x_m2l, x_m1l, x_call, x_cv, x_ri, x_rz, x_rl, x_rv, zg, zset, zbef, zlong, zcat, cond_true, cond_false, List.take, List.drop, rv1, rv2, rv3, rv4, rv5, rv6, rv7, sm0, sm1, bl0, bl1, bl2, bl3, bl4, bl5, bl6, bl7, bl8, List.nil_append, List.cons_append, List.length_cons, List.length_nil, Nat.reduceBEq, Nat.reduceAdd, Nat.reduceSub, ta, tb, tn0, tn1, tn2, tn3, tn4, tn5, tn6, tn7, tn8, tn9, tn10, tn11, tn12]
    rw [if_pos ok] at hk
    refine ⟨fun q => absurd q (by decide), fun _ => p_isHandR hT (fun ok2 => ?_) (fun no => ?_)⟩
    · dsimp only [x_int, x_lng, x_ild, x_lld, x_ald, x_ist, x_ast, x_lst, x_inc, x_ii, x_id, x_i, x_ll, x_ld, x_l, x_cmp, x_i2l, x_l2i, x_if, x_ic, x_dup, x_pop, x_dup2, x_gI, x_gL, x_gR, x_g1, x_g0, x_gP, x_pI, x_pZ, x_pL, x_pP, x_al, x_as, x_all, x_asl, x_alr, x_len, x_cpy, x_m2, x_m1, x_m2l, x_m1l, x_call, x_cv, x_ri, x_rz, x_rl, x_rv, zg, zset, zbef, zlong, zcat, cond_true, cond_false, List.take, List.drop, rv1, rv2, rv3, rv4, rv5, rv6, rv7, sm0, sm1, bl0, bl1, bl2, bl3, bl4, bl5, bl6, bl7, bl8, List.nil_append, List.cons_append, List.length_cons, List.length_nil, Nat.reduceBEq, Nat.reduceAdd, Nat.reduceSub, ta, tb, tn0, tn1, tn2, tn3, tn4, tn5, tn6, tn7, tn8, tn9, tn10, tn11, tn12, bX12_apart_31]
      rw [if_pos ok2] at hk
      obtain ⟨x, rfl, hx⟩ := ok_of (by omega) ok
      obtain ⟨y, rfl, hy⟩ := ok_of (by omega) ok2
      rw [n_cl (n := x) (by omega), n_cl (n := y) (by omega)] at hk
      exact ⟨fun q => absurd q (by decide), fun _ => p_apartOf hT hx hy hk⟩
    · dsimp only [x_int, x_lng, x_ild, x_lld, x_ald, x_ist, x_ast, x_lst, x_inc, x_ii, x_id, x_i, x_ll, x_ld, x_l, x_cmp, x_i2l, x_l2i, x_if, x_ic, x_dup, x_pop, x_dup2, x_gI, x_gL, x_gR, x_g1, x_g0, x_gP, x_pI, x_pZ, x_pL, x_pP, x_al, x_as, x_all, x_asl, x_alr, x_len, x_cpy, x_m2, x_m1, x_m2l, x_m1l, x_call, x_cv, x_ri, x_rz, x_rl, x_rv, zg, zset, zbef, zlong, zcat, cond_true, cond_false, List.take, List.drop, rv1, rv2, rv3, rv4, rv5, rv6, rv7, sm0, sm1, bl0, bl1, bl2, bl3, bl4, bl5, bl6, bl7, bl8, List.nil_append, List.cons_append, List.length_cons, List.length_nil, Nat.reduceBEq, Nat.reduceAdd, Nat.reduceSub, ta, tb, tn0, tn1, tn2, tn3, tn4, tn5, tn6, tn7, tn8, tn9, tn10, tn11, tn12, bX12_apart_30, bX12_apart_31]
      rw [if_neg no] at hk
      exact ⟨fun _ => hk, fun q => absurd rfl q⟩
  · dsimp only [x_int, x_lng, x_ild, x_lld, x_ald, x_ist, x_ast, x_lst, x_inc, x_ii, x_id, x_i, x_ll, x_ld, x_l, x_cmp, x_i2l, x_l2i, x_if, x_ic, x_dup, x_pop, x_dup2, x_gI, x_gL, x_gR, x_g1, x_g0, x_gP, x_pI, x_pZ, x_pL, x_pP, x_al, x_as, x_all, x_asl, x_alr, x_len, x_cpy, x_m2, x_m1, x_m2l, x_m1l, x_call, x_cv, x_ri, x_rz, x_rl, x_rv, zg, zset, zbef, zlong, zcat, cond_true, cond_false, List.take, List.drop, rv1, rv2, rv3, rv4, rv5, rv6, rv7, sm0, sm1, bl0, bl1, bl2, bl3, bl4, bl5, bl6, bl7, bl8, List.nil_append, List.cons_append, List.length_cons, List.length_nil, Nat.reduceBEq, Nat.reduceAdd, Nat.reduceSub, ta, tb, tn0, tn1, tn2, tn3, tn4, tn5, tn6, tn7, tn8, tn9, tn10, tn11, tn12, bX12_apart_30, bX12_apart_31]
    rw [if_neg no] at hk
    exact ⟨fun _ => hk, fun q => absurd rfl q⟩
-- owns
def v_owns (A : aA) (h : Int32) : Int32 := if okN (A.T.1 0) h then nI (bsB (fun r => decide (A.S 2 r = h)) (A.T.1 1)) else -1
theorem c_owns {K : zQ} {I : zI} {L : zJ} {P : zP} {A : aA} {h : Int32} (hC : RC A I P) (hk : K [.inl (v_owns A h)] (I, L, P)) : mX11_owns K [kbR, .inl h] (I, L, P) := by
  obtain ⟨t, hT, h11, h8, hS⟩ := hC.b
  have w4 := hT.w4
  unfold v_owns at hk
  show bX11_owns_0 K [some (.inr (.inr (11,0))), some (.inl h), none, none] [] (I, L, P)
  unfold bX11_owns_0
  dsimp only [x_int, x_lng, x_ild, x_lld, x_ald, x_ist, x_ast, x_lst, x_inc, x_ii, x_id, x_i, x_ll, x_ld, x_l, x_cmp, x_i2l, x_l2i, x_if, x_ic, x_dup, x_pop, x_dup2, x_gI, x_gL, x_gR, x_g1, x_g0, x_gP, x_pI, x_pZ, x_pL, x_pP, x_al, x_as, x_all, x_asl, x_alr, x_len, x_cpy, x_m2, x_m1, x_m2l, x_m1l, x_call, x_cv, x_ri, x_rz, x_rl, x_rv, zg, zset, zbef, zlong, zcat, cond_true, cond_false, List.take, List.drop, rv1, rv2, rv3, rv4, rv5, rv6, rv7, sm0, sm1, bl0, bl1, bl2, bl3, bl4, bl5, bl6, bl7, bl8, List.nil_append, List.cons_append, List.length_cons, List.length_nil, Nat.reduceBEq, Nat.reduceAdd, Nat.reduceSub, ta, tb, tn0, tn1, tn2, tn3, tn4, tn5, tn6, tn7, tn8, tn9, tn10, tn11, tn12]
  refine p_isHandC hT h11 (fun ok => ?_) (fun no => ?_)
  · rw [if_pos ok] at hk
    refine ⟨fun q => absurd q (by decide), fun _ => ?_⟩
    show bX11_owns_14 K [some kbR, some (.inl h), some (.inl 0), some (.inl 0)] [] (I, L, P)
    refine zfor (A.T.1 1) (fun i => [some kbR, some (.inl h), some (.inl (nI (bsB (fun r => decide (A.S 2 r = h)) i))), some (.inl (nI i))]) (fun _ => (I, L, P)) (fun i hi self hs => ?_) (fun self => ?_)
    · have up : (A.S 2 i = h) → self [some kbR, some (.inl h), some (.inl (nI (bsB (fun r => decide (A.S 2 r = h)) i) ||| (1 <<< (nI i &&& 31)))), some (.inl (nI (i + 1)))] [] (I, L, P) := fun c => by
        have e : bsB (fun r => decide (A.S 2 r = h)) (i + 1) = bsB (fun r => decide (A.S 2 r = h)) i + 2 ^ i := by
          show _ + (if decide (A.S 2 i = h) = true then 2 ^ i else 0) = _
          rw [if_pos (decide_eq_true c)]
        rw [bsB_or _ (by omega), ← e]; exact hs
      have no : ¬ (A.S 2 i = h) → self [some kbR, some (.inl h), some (.inl (nI (bsB (fun r => decide (A.S 2 r = h)) i) ||| 0)), some (.inl (nI (i + 1)))] [] (I, L, P) := fun c => by
        have e : bsB (fun r => decide (A.S 2 r = h)) (i + 1) = bsB (fun r => decide (A.S 2 r = h)) i := by
          show _ + (if decide (A.S 2 i = h) = true then 2 ^ i else 0) = _
          rw [if_neg (fun q => c (of_decide_eq_true q))]
          rfl
        rw [e] at hs
        rw [show nI (bsB (fun r => decide (A.S 2 r = h)) i) ||| 0 = nI (bsB (fun r => decide (A.S 2 r = h)) i) from Int32.or_zero]
        exact hs
      rw [Int32.or_zero] at no
      dsimp only [x_int, x_lng, x_ild, x_lld, x_ald, x_ist, x_ast, x_lst, x_inc, x_ii, x_id, x_i, x_ll, x_ld, x_l, x_cmp, x_i2l, x_l2i, x_if, x_ic, x_dup, x_pop, x_dup2, x_gI, x_gL, x_gR, x_g1, x_g0, x_gP, x_pI, x_pZ, x_pL, x_pP, x_al, x_as, x_all, x_asl, x_alr, x_len, x_cpy, x_m2, x_m1, x_m2l, x_m1l, x_call, x_cv, x_ri, x_rz, x_rl, x_rv, zg, zset, zbef, zlong, zcat, cond_true, cond_false, List.take, List.drop, rv1, rv2, rv3, rv4, rv5, rv6, rv7, sm0, sm1, bl0, bl1, bl2, bl3, bl4, bl5, bl6, bl7, bl8, List.nil_append, List.cons_append, List.length_cons, List.length_nil, Nat.reduceBEq, Nat.reduceAdd, Nat.reduceSub, ta, tb, tn0, tn1, tn2, tn3, tn4, tn5, tn6, tn7, tn8, tn9, tn10, tn11, tn12, zk_35, zl_35, bX11_owns_44]
      rw [h11, n_cl (n := i) (by omega), (hS.2.1 i hi).2, n_succ i]
      exact ⟨hT.1, fun c => absurd c (lt_go hT.2.1.2.1 (by omega) hi), fun _ => ⟨n_zin (by omega) (by decide), up, no⟩⟩
    · dsimp only [x_int, x_lng, x_ild, x_lld, x_ald, x_ist, x_ast, x_lst, x_inc, x_ii, x_id, x_i, x_ll, x_ld, x_l, x_cmp, x_i2l, x_l2i, x_if, x_ic, x_dup, x_pop, x_dup2, x_gI, x_gL, x_gR, x_g1, x_g0, x_gP, x_pI, x_pZ, x_pL, x_pP, x_al, x_as, x_all, x_asl, x_alr, x_len, x_cpy, x_m2, x_m1, x_m2l, x_m1l, x_call, x_cv, x_ri, x_rz, x_rl, x_rv, zg, zset, zbef, zlong, zcat, cond_true, cond_false, List.take, List.drop, rv1, rv2, rv3, rv4, rv5, rv6, rv7, sm0, sm1, bl0, bl1, bl2, bl3, bl4, bl5, bl6, bl7, bl8, List.nil_append, List.cons_append, List.length_cons, List.length_nil, Nat.reduceBEq, Nat.reduceAdd, Nat.reduceSub, ta, tb, tn0, tn1, tn2, tn3, tn4, tn5, tn6, tn7, tn8, tn9, tn10, tn11, tn12]
      rw [h11]
      exact ⟨hT.1, fun _ => hk, fun c => absurd c (lt_out hT.2.1.2.1)⟩
  · rw [if_neg no] at hk
    exact ⟨fun _ => hk, fun q => absurd rfl q⟩
theorem r_owns {K : zQ} {I : zI} {L : zJ} {P : zP} {A : aA} {h : Int32} (hR : RR A I L) (hK : ∀ (I' : zI) (L' : zJ), frR I I' → zeLr L L' → K [.inl (v_owns A h)] (I', L', P)) : mX12_owns K [refR, .inl h] (I, L, P) := by
  show bX12_owns_0 K [some (.inr (.inr (12,0))), some (.inl h), none, none] [] (I, L, P)
  unfold bX12_owns_0
  obtain ⟨I1, e9, hR1, f1⟩ := r_thr P hR
  dsimp only [x_ald, x_int, x_pI, zg, Nat.reduceBEq, cond_true]
  rw [e9]
  have hk := hK I1 L f1 zeLr.rf
  unfold v_owns at hk
  have hT := hR1.1
  have hS := hR1.2.1
  have w4 := hT.w4
  dsimp only [x_int, x_lng, x_ild, x_lld, x_ald, x_ist, x_ast, x_lst, x_inc, x_ii, x_id, x_i, x_ll, x_ld, x_l, x_cmp, x_i2l, x_l2i, x_if, x_ic, x_dup, x_pop, x_dup2, x_gI, x_gL, x_gR, x_g1, x_g0, x_gP, x_pI, x_pZ, x_pL, x_pP, x_al, x_as, x_all, x_asl, x_alr, x_len, x_cpy, x_m2, x_m1, x_m2l, x_m1l, x_call, x_cv, x_ri, x_rz, x_rl, x_rv, zg, zset, zbef, zlong, zcat, cond_true, cond_false, List.take, List.drop, rv1, rv2, rv3, rv4, rv5, rv6, rv7, sm0, sm1, bl0, bl1, bl2, bl3, bl4, bl5, bl6, bl7, bl8, List.nil_append, List.cons_append, List.length_cons, List.length_nil, Nat.reduceBEq, Nat.reduceAdd, Nat.reduceSub, ta, tb, tn0, tn1, tn2, tn3, tn4, tn5, tn6, tn7, tn8, tn9, tn10, tn11, tn12]
  refine p_isHandR hT (fun ok => ?_) (fun no => ?_)
  · rw [if_pos ok] at hk
    refine ⟨fun q => absurd q (by decide), fun _ => ?_⟩
    show bX12_owns_19 K [some refR, some (.inl h), some (.inl 0), some (.inl 0)] [] (I1, L, P)
    refine zfor (A.T.1 1) (fun i => [some refR, some (.inl h), some (.inl (nI (bsB (fun r => decide (A.S 2 r = h)) i))), some (.inl (nI i))]) (fun _ => (I1, L, P)) (fun i hi self hs => ?_) (fun self => ?_)
    · have up : (A.S 2 i = h) → self [some refR, some (.inl h), some (.inl (nI (bsB (fun r => decide (A.S 2 r = h)) i) ||| (1 <<< (nI i &&& 31)))), some (.inl (nI (i + 1)))] [] (I1, L, P) := fun c => by
        have e : bsB (fun r => decide (A.S 2 r = h)) (i + 1) = bsB (fun r => decide (A.S 2 r = h)) i + 2 ^ i := by
          show _ + (if decide (A.S 2 i = h) = true then 2 ^ i else 0) = _
          rw [if_pos (decide_eq_true c)]
        rw [bsB_or _ (by omega), ← e]; exact hs
      have no : ¬ (A.S 2 i = h) → self [some refR, some (.inl h), some (.inl (nI (bsB (fun r => decide (A.S 2 r = h)) i) ||| 0)), some (.inl (nI (i + 1)))] [] (I1, L, P) := fun c => by
        have e : bsB (fun r => decide (A.S 2 r = h)) (i + 1) = bsB (fun r => decide (A.S 2 r = h)) i := by
          show _ + (if decide (A.S 2 i = h) = true then 2 ^ i else 0) = _
          rw [if_neg (fun q => c (of_decide_eq_true q))]
          rfl
        rw [e] at hs
        rw [show nI (bsB (fun r => decide (A.S 2 r = h)) i) ||| 0 = nI (bsB (fun r => decide (A.S 2 r = h)) i) from Int32.or_zero]
        exact hs
      have s2 := (hS.2.1 i hi).2
      rw [show 4 * 0 + i = i by omega] at s2
      dsimp only [x_int, x_lng, x_ild, x_lld, x_ald, x_ist, x_ast, x_lst, x_inc, x_ii, x_id, x_i, x_ll, x_ld, x_l, x_cmp, x_i2l, x_l2i, x_if, x_ic, x_dup, x_pop, x_dup2, x_gI, x_gL, x_gR, x_g1, x_g0, x_gP, x_pI, x_pZ, x_pL, x_pP, x_al, x_as, x_all, x_asl, x_alr, x_len, x_cpy, x_m2, x_m1, x_m2l, x_m1l, x_call, x_cv, x_ri, x_rz, x_rl, x_rv, zg, zset, zbef, zlong, zcat, cond_true, cond_false, List.take, List.drop, rv1, rv2, rv3, rv4, rv5, rv6, rv7, sm0, sm1, bl0, bl1, bl2, bl3, bl4, bl5, bl6, bl7, bl8, List.nil_append, List.cons_append, List.length_cons, List.length_nil, Nat.reduceBEq, Nat.reduceAdd, Nat.reduceSub, ta, tb, tn0, tn1, tn2, tn3, tn4, tn5, tn6, tn7, tn8, tn9, tn10, tn11, tn12, zk_78, zl_78, bX12_owns_45]
      rw [n_cl (n := i) (by omega), s2, n_succ i]
      exact ⟨fun c => absurd c (lt_go hT.1.2.1 (by omega) hi), fun _ => ⟨n_zin (by omega) (by decide), up, no⟩⟩
    · dsimp only [x_int, x_lng, x_ild, x_lld, x_ald, x_ist, x_ast, x_lst, x_inc, x_ii, x_id, x_i, x_ll, x_ld, x_l, x_cmp, x_i2l, x_l2i, x_if, x_ic, x_dup, x_pop, x_dup2, x_gI, x_gL, x_gR, x_g1, x_g0, x_gP, x_pI, x_pZ, x_pL, x_pP, x_al, x_as, x_all, x_asl, x_alr, x_len, x_cpy, x_m2, x_m1, x_m2l, x_m1l, x_call, x_cv, x_ri, x_rz, x_rl, x_rv, zg, zset, zbef, zlong, zcat, cond_true, cond_false, List.take, List.drop, rv1, rv2, rv3, rv4, rv5, rv6, rv7, sm0, sm1, bl0, bl1, bl2, bl3, bl4, bl5, bl6, bl7, bl8, List.nil_append, List.cons_append, List.length_cons, List.length_nil, Nat.reduceBEq, Nat.reduceAdd, Nat.reduceSub, ta, tb, tn0, tn1, tn2, tn3, tn4, tn5, tn6, tn7, tn8, tn9, tn10, tn11, tn12]
      exact ⟨fun _ => hk, fun c => absurd c (lt_out hT.1.2.1)⟩
  · rw [if_neg no] at hk
    exact ⟨fun _ => hk, fun q => absurd rfl q⟩
-- own
def v_own (A : aA) (h : Int32) : Int32 := if okN (A.T.1 0) h then nI (bsB (fun r => decide (A.T.2.1 8 r = h ∧ A.S 6 r = h)) (A.T.1 2)) else -1
theorem c_own {K : zQ} {I : zI} {L : zJ} {P : zP} {A : aA} {h : Int32} (hC : RC A I P) (hk : K [.inl (v_own A h)] (I, L, P)) : mX11_own K [kbR, .inl h] (I, L, P) := by
  obtain ⟨t, hT, h11, h8, hS⟩ := hC.b
  have r10 := hT.r10
  unfold v_own at hk
  show bX11_own_0 K [some (.inr (.inr (11,0))), some (.inl h), none, none] [] (I, L, P)
  unfold bX11_own_0
  dsimp only [x_int, x_lng, x_ild, x_lld, x_ald, x_ist, x_ast, x_lst, x_inc, x_ii, x_id, x_i, x_ll, x_ld, x_l, x_cmp, x_i2l, x_l2i, x_if, x_ic, x_dup, x_pop, x_dup2, x_gI, x_gL, x_gR, x_g1, x_g0, x_gP, x_pI, x_pZ, x_pL, x_pP, x_al, x_as, x_all, x_asl, x_alr, x_len, x_cpy, x_m2, x_m1, x_m2l, x_m1l, x_call, x_cv, x_ri, x_rz, x_rl, x_rv, zg, zset, zbef, zlong, zcat, cond_true, cond_false, List.take, List.drop, rv1, rv2, rv3, rv4, rv5, rv6, rv7, sm0, sm1, bl0, bl1, bl2, bl3, bl4, bl5, bl6, bl7, bl8, List.nil_append, List.cons_append, List.length_cons, List.length_nil, Nat.reduceBEq, Nat.reduceAdd, Nat.reduceSub, ta, tb, tn0, tn1, tn2, tn3, tn4, tn5, tn6, tn7, tn8, tn9, tn10, tn11, tn12]
  refine p_isHandC hT h11 (fun ok => ?_) (fun no => ?_)
  · rw [if_pos ok] at hk
    refine ⟨fun q => absurd q (by decide), fun _ => ?_⟩
    show bX11_own_14 K [some kbR, some (.inl h), some (.inl 0), some (.inl 0)] [] (I, L, P)
    refine zfor (A.T.1 2) (fun i => [some kbR, some (.inl h), some (.inl (nI (bsB (fun r => decide (A.T.2.1 8 r = h ∧ A.S 6 r = h)) i))), some (.inl (nI i))]) (fun _ => (I, L, P)) (fun i hi self hs => ?_) (fun self => ?_)
    · have up : (A.T.2.1 8 i = h ∧ A.S 6 i = h) → self [some kbR, some (.inl h), some (.inl (nI (bsB (fun r => decide (A.T.2.1 8 r = h ∧ A.S 6 r = h)) i) ||| (1 <<< (nI i &&& 31)))), some (.inl (nI (i + 1)))] [] (I, L, P) := fun c => by
        have e : bsB (fun r => decide (A.T.2.1 8 r = h ∧ A.S 6 r = h)) (i + 1) = bsB (fun r => decide (A.T.2.1 8 r = h ∧ A.S 6 r = h)) i + 2 ^ i := by
          show _ + (if decide (A.T.2.1 8 i = h ∧ A.S 6 i = h) = true then 2 ^ i else 0) = _
          rw [if_pos (decide_eq_true c)]
        rw [bsB_or _ (by omega), ← e]; exact hs
      have no : ¬ (A.T.2.1 8 i = h ∧ A.S 6 i = h) → self [some kbR, some (.inl h), some (.inl (nI (bsB (fun r => decide (A.T.2.1 8 r = h ∧ A.S 6 r = h)) i) ||| 0)), some (.inl (nI (i + 1)))] [] (I, L, P) := fun c => by
        have e : bsB (fun r => decide (A.T.2.1 8 r = h ∧ A.S 6 r = h)) (i + 1) = bsB (fun r => decide (A.T.2.1 8 r = h ∧ A.S 6 r = h)) i := by
          show _ + (if decide (A.T.2.1 8 i = h ∧ A.S 6 i = h) = true then 2 ^ i else 0) = _
          rw [if_neg (fun q => c (of_decide_eq_true q))]
          rfl
        rw [e] at hs
        rw [show nI (bsB (fun r => decide (A.T.2.1 8 r = h ∧ A.S 6 r = h)) i) ||| 0 = nI (bsB (fun r => decide (A.T.2.1 8 r = h ∧ A.S 6 r = h)) i) from Int32.or_zero]
        exact hs
      rw [Int32.or_zero] at no
      have zi : zin (nI i) 10 := n_zin (by omega) (by decide)
      dsimp only [x_int, x_lng, x_ild, x_lld, x_ald, x_ist, x_ast, x_lst, x_inc, x_ii, x_id, x_i, x_ll, x_ld, x_l, x_cmp, x_i2l, x_l2i, x_if, x_ic, x_dup, x_pop, x_dup2, x_gI, x_gL, x_gR, x_g1, x_g0, x_gP, x_pI, x_pZ, x_pL, x_pP, x_al, x_as, x_all, x_asl, x_alr, x_len, x_cpy, x_m2, x_m1, x_m2l, x_m1l, x_call, x_cv, x_ri, x_rz, x_rl, x_rv, zg, zset, zbef, zlong, zcat, cond_true, cond_false, List.take, List.drop, rv1, rv2, rv3, rv4, rv5, rv6, rv7, sm0, sm1, bl0, bl1, bl2, bl3, bl4, bl5, bl6, bl7, bl8, List.nil_append, List.cons_append, List.length_cons, List.length_nil, Nat.reduceBEq, Nat.reduceAdd, Nat.reduceSub, ta, tb, tn0, tn1, tn2, tn3, tn4, tn5, tn6, tn7, tn8, tn9, tn10, tn11, tn12, zk_39, zl_39, zl_45, bX11_own_60]
      rw [h11, n_cl (n := i) (by omega), (hS.2.2.1 i hi).2.2.2.1, (hT.rap hi).1, n_succ i]
      exact ⟨hT.1, fun c => absurd c (lt_go hT.2.1.2.2 (by omega) hi), fun _ => ⟨hT.1, zi, fun c => ⟨zi, fun d => up ⟨c, d⟩, fun d => no (fun q => d q.2)⟩, fun c => no (fun q => c q.1)⟩⟩
    · dsimp only [x_int, x_lng, x_ild, x_lld, x_ald, x_ist, x_ast, x_lst, x_inc, x_ii, x_id, x_i, x_ll, x_ld, x_l, x_cmp, x_i2l, x_l2i, x_if, x_ic, x_dup, x_pop, x_dup2, x_gI, x_gL, x_gR, x_g1, x_g0, x_gP, x_pI, x_pZ, x_pL, x_pP, x_al, x_as, x_all, x_asl, x_alr, x_len, x_cpy, x_m2, x_m1, x_m2l, x_m1l, x_call, x_cv, x_ri, x_rz, x_rl, x_rv, zg, zset, zbef, zlong, zcat, cond_true, cond_false, List.take, List.drop, rv1, rv2, rv3, rv4, rv5, rv6, rv7, sm0, sm1, bl0, bl1, bl2, bl3, bl4, bl5, bl6, bl7, bl8, List.nil_append, List.cons_append, List.length_cons, List.length_nil, Nat.reduceBEq, Nat.reduceAdd, Nat.reduceSub, ta, tb, tn0, tn1, tn2, tn3, tn4, tn5, tn6, tn7, tn8, tn9, tn10, tn11, tn12]
      rw [h11]
      exact ⟨hT.1, fun _ => hk, fun c => absurd c (lt_out hT.2.1.2.2)⟩
  · rw [if_neg no] at hk
    exact ⟨fun _ => hk, fun q => absurd rfl q⟩
theorem WB.no {T : aT} {S : aS} (wB : WB T S) {i : Nat} (hi : i < T.1 2) (c : ¬ S 5 i = 1) {n : Nat} {h : Int32} (ok : okN n h) : ¬ S 6 i = h := fun q => by
  rw [wB i hi c] at q
  rw [← q] at ok
  exact absurd ok.1 (by decide)
theorem r_own {K : zQ} {I : zI} {L : zJ} {P : zP} {A : aA} {h : Int32} (wB : WB A.T A.S) (hR : RR A I L) (hK : ∀ (I' : zI) (L' : zJ), frR I I' → zeLr L L' → K [.inl (v_own A h)] (I', L', P)) : mX12_own K [refR, .inl h] (I, L, P) := by
  show bX12_own_0 K [some (.inr (.inr (12,0))), some (.inl h), none, none] [] (I, L, P)
  unfold bX12_own_0
  obtain ⟨I1, e9, hR1, f1⟩ := r_thr P hR
  dsimp only [x_ald, x_int, x_pI, zg, Nat.reduceBEq, cond_true]
  rw [e9]
  have hk := hK I1 L f1 zeLr.rf
  unfold v_own at hk
  have hT := hR1.1
  have hS := hR1.2.1
  have r10 := hT.r10
  dsimp only [x_int, x_lng, x_ild, x_lld, x_ald, x_ist, x_ast, x_lst, x_inc, x_ii, x_id, x_i, x_ll, x_ld, x_l, x_cmp, x_i2l, x_l2i, x_if, x_ic, x_dup, x_pop, x_dup2, x_gI, x_gL, x_gR, x_g1, x_g0, x_gP, x_pI, x_pZ, x_pL, x_pP, x_al, x_as, x_all, x_asl, x_alr, x_len, x_cpy, x_m2, x_m1, x_m2l, x_m1l, x_call, x_cv, x_ri, x_rz, x_rl, x_rv, zg, zset, zbef, zlong, zcat, cond_true, cond_false, List.take, List.drop, rv1, rv2, rv3, rv4, rv5, rv6, rv7, sm0, sm1, bl0, bl1, bl2, bl3, bl4, bl5, bl6, bl7, bl8, List.nil_append, List.cons_append, List.length_cons, List.length_nil, Nat.reduceBEq, Nat.reduceAdd, Nat.reduceSub, ta, tb, tn0, tn1, tn2, tn3, tn4, tn5, tn6, tn7, tn8, tn9, tn10, tn11, tn12]
  refine p_isHandR hT (fun ok => ?_) (fun no => ?_)
  · rw [if_pos ok] at hk
    refine ⟨fun q => absurd q (by decide), fun _ => ?_⟩
    show bX12_own_19 K [some refR, some (.inl h), some (.inl 0), some (.inl 0)] [] (I1, L, P)
    refine zfor (A.T.1 2) (fun i => [some refR, some (.inl h), some (.inl (nI (bsB (fun r => decide (A.T.2.1 8 r = h ∧ A.S 6 r = h)) i))), some (.inl (nI i))]) (fun _ => (I1, L, P)) (fun i hi self hs => ?_) (fun self => ?_)
    · have up : (A.T.2.1 8 i = h ∧ A.S 6 i = h) → self [some refR, some (.inl h), some (.inl (nI (bsB (fun r => decide (A.T.2.1 8 r = h ∧ A.S 6 r = h)) i) ||| (1 <<< (nI i &&& 31)))), some (.inl (nI (i + 1)))] [] (I1, L, P) := fun c => by
        have e : bsB (fun r => decide (A.T.2.1 8 r = h ∧ A.S 6 r = h)) (i + 1) = bsB (fun r => decide (A.T.2.1 8 r = h ∧ A.S 6 r = h)) i + 2 ^ i := by
          show _ + (if decide (A.T.2.1 8 i = h ∧ A.S 6 i = h) = true then 2 ^ i else 0) = _
          rw [if_pos (decide_eq_true c)]
        rw [bsB_or _ (by omega), ← e]; exact hs
      have no : ¬ (A.T.2.1 8 i = h ∧ A.S 6 i = h) → self [some refR, some (.inl h), some (.inl (nI (bsB (fun r => decide (A.T.2.1 8 r = h ∧ A.S 6 r = h)) i) ||| 0)), some (.inl (nI (i + 1)))] [] (I1, L, P) := fun c => by
        have e : bsB (fun r => decide (A.T.2.1 8 r = h ∧ A.S 6 r = h)) (i + 1) = bsB (fun r => decide (A.T.2.1 8 r = h ∧ A.S 6 r = h)) i := by
          show _ + (if decide (A.T.2.1 8 i = h ∧ A.S 6 i = h) = true then 2 ^ i else 0) = _
          rw [if_neg (fun q => c (of_decide_eq_true q))]
          rfl
        rw [e] at hs
        rw [show nI (bsB (fun r => decide (A.T.2.1 8 r = h ∧ A.S 6 r = h)) i) ||| 0 = nI (bsB (fun r => decide (A.T.2.1 8 r = h ∧ A.S 6 r = h)) i) from Int32.or_zero]
        exact hs
      obtain ⟨b1, b2, b3, b4, b5, b6, b7⟩ := hS.2.2.1 i hi
      rw [show 10 * 0 + i = i by omega] at b3 b4
      have zi : zin (nI i) 20 := n_zin (by omega) (by decide)
      dsimp only [x_int, x_lng, x_ild, x_lld, x_ald, x_ist, x_ast, x_lst, x_inc, x_ii, x_id, x_i, x_ll, x_ld, x_l, x_cmp, x_i2l, x_l2i, x_if, x_ic, x_dup, x_pop, x_dup2, x_gI, x_gL, x_gR, x_g1, x_g0, x_gP, x_pI, x_pZ, x_pL, x_pP, x_al, x_as, x_all, x_asl, x_alr, x_len, x_cpy, x_m2, x_m1, x_m2l, x_m1l, x_call, x_cv, x_ri, x_rz, x_rl, x_rv, zg, zset, zbef, zlong, zcat, cond_true, cond_false, List.take, List.drop, rv1, rv2, rv3, rv4, rv5, rv6, rv7, sm0, sm1, bl0, bl1, bl2, bl3, bl4, bl5, bl6, bl7, bl8, List.nil_append, List.cons_append, List.length_cons, List.length_nil, Nat.reduceBEq, Nat.reduceAdd, Nat.reduceSub, ta, tb, tn0, tn1, tn2, tn3, tn4, tn5, tn6, tn7, tn8, tn9, tn10, tn11, tn12, zk_63, zl_63, zk_81, zl_81, zk_82, zl_82, bX12_own_64, bX12_own_65]
      rw [n_cl (n := i) (by omega), b3, b4, (hT.rap hi).1, n_succ i]
      exact ⟨fun c => absurd c (lt_go hT.1.2.2 (by omega) hi), fun _ => ⟨zi, fun c => ⟨zi, fun d => ⟨zi, fun d2 => up ⟨c, d2⟩, fun d2 => no (fun q => d2 q.2)⟩, fun d => no (fun q => wB.no hi d ok q.2)⟩, fun c => no (fun q => c q.1)⟩⟩
    · dsimp only [x_int, x_lng, x_ild, x_lld, x_ald, x_ist, x_ast, x_lst, x_inc, x_ii, x_id, x_i, x_ll, x_ld, x_l, x_cmp, x_i2l, x_l2i, x_if, x_ic, x_dup, x_pop, x_dup2, x_gI, x_gL, x_gR, x_g1, x_g0, x_gP, x_pI, x_pZ, x_pL, x_pP, x_al, x_as, x_all, x_asl, x_alr, x_len, x_cpy, x_m2, x_m1, x_m2l, x_m1l, x_call, x_cv, x_ri, x_rz, x_rl, x_rv, zg, zset, zbef, zlong, zcat, cond_true, cond_false, List.take, List.drop, rv1, rv2, rv3, rv4, rv5, rv6, rv7, sm0, sm1, bl0, bl1, bl2, bl3, bl4, bl5, bl6, bl7, bl8, List.nil_append, List.cons_append, List.length_cons, List.length_nil, Nat.reduceBEq, Nat.reduceAdd, Nat.reduceSub, ta, tb, tn0, tn1, tn2, tn3, tn4, tn5, tn6, tn7, tn8, tn9, tn10, tn11, tn12]
      exact ⟨fun _ => hk, fun c => absurd c (lt_out hT.1.2.2)⟩
  · rw [if_neg no] at hk
    exact ⟨fun _ => hk, fun q => absurd rfl q⟩
-- holds
def v_holds (A : aA) (h : Int32) : Int32 := if okN (A.T.1 0) h then nI (zcount (fun r => decide (A.S 5 r = 1 ∧ ¬ A.S 7 r = 1 ∧ A.S 2 (wod A.S r) = h)) (A.T.1 2)) else -1
theorem c_holds {K : zQ} {I : zI} {L : zJ} {P : zP} {A : aA} {h : Int32} (wS : WS A.T A.S) (hC : RC A I P) (hk : K [.inl (v_holds A h)] (I, L, P)) : mX11_holds K [kbR, .inl h] (I, L, P) := by
  obtain ⟨t, hT, h11, h8, hS⟩ := hC.b
  have r10 := hT.r10
  have w4 := hT.w4
  unfold v_holds at hk
  show bX11_holds_0 K [some (.inr (.inr (11,0))), some (.inl h), none, none] [] (I, L, P)
  unfold bX11_holds_0
  dsimp only [x_int, x_lng, x_ild, x_lld, x_ald, x_ist, x_ast, x_lst, x_inc, x_ii, x_id, x_i, x_ll, x_ld, x_l, x_cmp, x_i2l, x_l2i, x_if, x_ic, x_dup, x_pop, x_dup2, x_gI, x_gL, x_gR, x_g1, x_g0, x_gP, x_pI, x_pZ, x_pL, x_pP, x_al, x_as, x_all, x_asl, x_alr, x_len, x_cpy, x_m2, x_m1, x_m2l, x_m1l, x_call, x_cv, x_ri, x_rz, x_rl, x_rv, zg, zset, zbef, zlong, zcat, cond_true, cond_false, List.take, List.drop, rv1, rv2, rv3, rv4, rv5, rv6, rv7, sm0, sm1, bl0, bl1, bl2, bl3, bl4, bl5, bl6, bl7, bl8, List.nil_append, List.cons_append, List.length_cons, List.length_nil, Nat.reduceBEq, Nat.reduceAdd, Nat.reduceSub, ta, tb, tn0, tn1, tn2, tn3, tn4, tn5, tn6, tn7, tn8, tn9, tn10, tn11, tn12]
  refine p_isHandC hT h11 (fun ok => ?_) (fun no => ?_)
  · rw [if_pos ok] at hk
    refine ⟨fun q => absurd q (by decide), fun _ => ?_⟩
    show bX11_holds_14 K [some kbR, some (.inl h), some (.inl 0), some (.inl 0)] [] (I, L, P)
    refine zfor (A.T.1 2) (fun i => [some kbR, some (.inl h), some (.inl (nI (zcount (fun r => decide (A.S 5 r = 1 ∧ ¬ A.S 7 r = 1 ∧ A.S 2 (wod A.S r) = h)) i))), some (.inl (nI i))]) (fun _ => (I, L, P)) (fun i hi self hs => ?_) (fun self => ?_)
    · have up : (A.S 5 i = 1 ∧ ¬ A.S 7 i = 1 ∧ A.S 2 (wod A.S i) = h) → self [some kbR, some (.inl h), some (.inl (nI (zcount (fun r => decide (A.S 5 r = 1 ∧ ¬ A.S 7 r = 1 ∧ A.S 2 (wod A.S r) = h)) i) + 1)), some (.inl (nI (i + 1)))] [] (I, L, P) := fun c => by
        have e : zcount (fun r => decide (A.S 5 r = 1 ∧ ¬ A.S 7 r = 1 ∧ A.S 2 (wod A.S r) = h)) (i + 1) = zcount (fun r => decide (A.S 5 r = 1 ∧ ¬ A.S 7 r = 1 ∧ A.S 2 (wod A.S r) = h)) i + 1 := by
          show _ + (if decide (A.S 5 i = 1 ∧ ¬ A.S 7 i = 1 ∧ A.S 2 (wod A.S i) = h) = true then 1 else 0) = _
          rw [if_pos (decide_eq_true c)]
        rw [n_succ, ← e]; exact hs
      have no : ¬ (A.S 5 i = 1 ∧ ¬ A.S 7 i = 1 ∧ A.S 2 (wod A.S i) = h) → self [some kbR, some (.inl h), some (.inl (nI (zcount (fun r => decide (A.S 5 r = 1 ∧ ¬ A.S 7 r = 1 ∧ A.S 2 (wod A.S r) = h)) i) + 0)), some (.inl (nI (i + 1)))] [] (I, L, P) := fun c => by
        have e : zcount (fun r => decide (A.S 5 r = 1 ∧ ¬ A.S 7 r = 1 ∧ A.S 2 (wod A.S r) = h)) (i + 1) = zcount (fun r => decide (A.S 5 r = 1 ∧ ¬ A.S 7 r = 1 ∧ A.S 2 (wod A.S r) = h)) i := by
          show _ + (if decide (A.S 5 i = 1 ∧ ¬ A.S 7 i = 1 ∧ A.S 2 (wod A.S i) = h) = true then 1 else 0) = _
          rw [if_neg (fun q => c (of_decide_eq_true q))]
          rfl
        rw [e] at hs
        rw [show nI (zcount (fun r => decide (A.S 5 r = 1 ∧ ¬ A.S 7 r = 1 ∧ A.S 2 (wod A.S r) = h)) i) + 0 = nI (zcount (fun r => decide (A.S 5 r = 1 ∧ ¬ A.S 7 r = 1 ∧ A.S 2 (wod A.S r) = h)) i) from Int32.add_zero _]
        exact hs
      rw [Int32.add_zero] at no
      obtain ⟨c1, c2, c3, c4, c5⟩ := hS.2.2.1 i hi
      obtain ⟨hw, ew⟩ := wS.w w4 hi
      have zi : zin (nI i) 10 := n_zin (by omega) (by decide)
      dsimp only [x_int, x_lng, x_ild, x_lld, x_ald, x_ist, x_ast, x_lst, x_inc, x_ii, x_id, x_i, x_ll, x_ld, x_l, x_cmp, x_i2l, x_l2i, x_if, x_ic, x_dup, x_pop, x_dup2, x_gI, x_gL, x_gR, x_g1, x_g0, x_gP, x_pI, x_pZ, x_pL, x_pP, x_al, x_as, x_all, x_asl, x_alr, x_len, x_cpy, x_m2, x_m1, x_m2l, x_m1l, x_call, x_cv, x_ri, x_rz, x_rl, x_rv, zg, zset, zbef, zlong, zcat, cond_true, cond_false, List.take, List.drop, rv1, rv2, rv3, rv4, rv5, rv6, rv7, sm0, sm1, bl0, bl1, bl2, bl3, bl4, bl5, bl6, bl7, bl8, List.nil_append, List.cons_append, List.length_cons, List.length_nil, Nat.reduceBEq, Nat.reduceAdd, Nat.reduceSub, ta, tb, tn0, tn1, tn2, tn3, tn4, tn5, tn6, tn7, tn8, tn9, tn10, tn11, tn12, zk_38, zl_38, zk_36, zl_36, zk_35, zl_35, bX11_holds_73]
      rw [h11, n_cl (n := i) (by omega), c3, n_succ i]
      refine ⟨hT.1, fun c => absurd c (lt_go hT.2.1.2.2 (by omega) hi), fun _ => ⟨zi, fun c => p_isFaded r10 hS hi ?_, fun c => no (fun q => c q.1)⟩⟩
      dsimp only [x_int, x_lng, x_ild, x_lld, x_ald, x_ist, x_ast, x_lst, x_inc, x_ii, x_id, x_i, x_ll, x_ld, x_l, x_cmp, x_i2l, x_l2i, x_if, x_ic, x_dup, x_pop, x_dup2, x_gI, x_gL, x_gR, x_g1, x_g0, x_gP, x_pI, x_pZ, x_pL, x_pP, x_al, x_as, x_all, x_asl, x_alr, x_len, x_cpy, x_m2, x_m1, x_m2l, x_m1l, x_call, x_cv, x_ri, x_rz, x_rl, x_rv, zg, zset, zbef, zlong, zcat, cond_true, cond_false, List.take, List.drop, rv1, rv2, rv3, rv4, rv5, rv6, rv7, sm0, sm1, bl0, bl1, bl2, bl3, bl4, bl5, bl6, bl7, bl8, List.nil_append, List.cons_append, List.length_cons, List.length_nil, Nat.reduceBEq, Nat.reduceAdd, Nat.reduceSub, ta, tb, tn0, tn1, tn2, tn3, tn4, tn5, tn6, tn7, tn8, tn9, tn10, tn11, tn12, zk_38, zl_38, zk_36, zl_36, zk_35, zl_35, bX11_holds_73]
      try rw [n_cl (n := i) (by omega)]
      try rw [n_succ i]
      rw [c1, ew, n_cl (n := wod A.S i) (by omega), (hS.2.1 _ hw).2]
      by_cases d : A.S 7 i = 1
      · rw [if_pos d]
        exact ⟨fun q => absurd q (by decide), fun _ => no (fun q => q.2.1 d)⟩
      · rw [if_neg d]
        exact ⟨fun _ => ⟨zi, n_zin (by omega) (by decide), fun d2 => up ⟨c, d, d2⟩, fun d2 => no (fun q => d2 q.2.2)⟩, fun q => absurd rfl q⟩
    · dsimp only [x_int, x_lng, x_ild, x_lld, x_ald, x_ist, x_ast, x_lst, x_inc, x_ii, x_id, x_i, x_ll, x_ld, x_l, x_cmp, x_i2l, x_l2i, x_if, x_ic, x_dup, x_pop, x_dup2, x_gI, x_gL, x_gR, x_g1, x_g0, x_gP, x_pI, x_pZ, x_pL, x_pP, x_al, x_as, x_all, x_asl, x_alr, x_len, x_cpy, x_m2, x_m1, x_m2l, x_m1l, x_call, x_cv, x_ri, x_rz, x_rl, x_rv, zg, zset, zbef, zlong, zcat, cond_true, cond_false, List.take, List.drop, rv1, rv2, rv3, rv4, rv5, rv6, rv7, sm0, sm1, bl0, bl1, bl2, bl3, bl4, bl5, bl6, bl7, bl8, List.nil_append, List.cons_append, List.length_cons, List.length_nil, Nat.reduceBEq, Nat.reduceAdd, Nat.reduceSub, ta, tb, tn0, tn1, tn2, tn3, tn4, tn5, tn6, tn7, tn8, tn9, tn10, tn11, tn12]
      rw [h11]
      exact ⟨hT.1, fun _ => hk, fun c => absurd c (lt_out hT.2.1.2.2)⟩
  · rw [if_neg no] at hk
    exact ⟨fun _ => hk, fun q => absurd rfl q⟩
theorem r_holds {K : zQ} {I : zI} {L : zJ} {P : zP} {A : aA} {h : Int32} (wS : WS A.T A.S) (wQ : WQ A.T A.S) (hR : RR A I L) (hK : ∀ (I' : zI) (L' : zJ), frR I I' → zeLr L L' → K [.inl (v_holds A h)] (I', L', P)) : mX12_holds K [refR, .inl h] (I, L, P) := by
  show bX12_holds_0 K [some (.inr (.inr (12,0))), some (.inl h), none, none] [] (I, L, P)
  unfold bX12_holds_0
  obtain ⟨I1, e9, hR1, f1⟩ := r_thr P hR
  dsimp only [x_ald, x_int, x_pI, zg, Nat.reduceBEq, cond_true]
  rw [e9]
  have hk := hK I1 L f1 zeLr.rf
  unfold v_holds at hk
  have hT := hR1.1
  have hS := hR1.2.1
  have r10 := hT.r10
  have w4 := hT.w4
  dsimp only [x_int, x_lng, x_ild, x_lld, x_ald, x_ist, x_ast, x_lst, x_inc, x_ii, x_id, x_i, x_ll, x_ld, x_l, x_cmp, x_i2l, x_l2i, x_if, x_ic, x_dup, x_pop, x_dup2, x_gI, x_gL, x_gR, x_g1, x_g0, x_gP, x_pI, x_pZ, x_pL, x_pP, x_al, x_as, x_all, x_asl, x_alr, x_len, x_cpy, x_m2, x_m1, x_m2l, x_m1l, x_call, x_cv, x_ri, x_rz, x_rl, x_rv, zg, zset, zbef, zlong, zcat, cond_true, cond_false, List.take, List.drop, rv1, rv2, rv3, rv4, rv5, rv6, rv7, sm0, sm1, bl0, bl1, bl2, bl3, bl4, bl5, bl6, bl7, bl8, List.nil_append, List.cons_append, List.length_cons, List.length_nil, Nat.reduceBEq, Nat.reduceAdd, Nat.reduceSub, ta, tb, tn0, tn1, tn2, tn3, tn4, tn5, tn6, tn7, tn8, tn9, tn10, tn11, tn12]
  refine p_isHandR hT (fun ok => ?_) (fun no => ?_)
  · rw [if_pos ok] at hk
    refine ⟨fun q => absurd q (by decide), fun _ => ?_⟩
    show bX12_holds_19 K [some refR, some (.inl h), some (.inl 0), some (.inl 0)] [] (I1, L, P)
    refine zfor (A.T.1 2) (fun i => [some refR, some (.inl h), some (.inl (nI (zcount (fun r => decide (A.S 5 r = 1 ∧ ¬ A.S 7 r = 1 ∧ A.S 2 (wod A.S r) = h)) i))), some (.inl (nI i))]) (fun _ => (I1, L, P)) (fun i hi self hs => ?_) (fun self => ?_)
    · have up : (A.S 5 i = 1 ∧ ¬ A.S 7 i = 1 ∧ A.S 2 (wod A.S i) = h) → self [some refR, some (.inl h), some (.inl (nI (zcount (fun r => decide (A.S 5 r = 1 ∧ ¬ A.S 7 r = 1 ∧ A.S 2 (wod A.S r) = h)) i) + 1)), some (.inl (nI (i + 1)))] [] (I1, L, P) := fun c => by
        have e : zcount (fun r => decide (A.S 5 r = 1 ∧ ¬ A.S 7 r = 1 ∧ A.S 2 (wod A.S r) = h)) (i + 1) = zcount (fun r => decide (A.S 5 r = 1 ∧ ¬ A.S 7 r = 1 ∧ A.S 2 (wod A.S r) = h)) i + 1 := by
          show _ + (if decide (A.S 5 i = 1 ∧ ¬ A.S 7 i = 1 ∧ A.S 2 (wod A.S i) = h) = true then 1 else 0) = _
          rw [if_pos (decide_eq_true c)]
        rw [n_succ, ← e]; exact hs
      have no : ¬ (A.S 5 i = 1 ∧ ¬ A.S 7 i = 1 ∧ A.S 2 (wod A.S i) = h) → self [some refR, some (.inl h), some (.inl (nI (zcount (fun r => decide (A.S 5 r = 1 ∧ ¬ A.S 7 r = 1 ∧ A.S 2 (wod A.S r) = h)) i) + 0)), some (.inl (nI (i + 1)))] [] (I1, L, P) := fun c => by
        have e : zcount (fun r => decide (A.S 5 r = 1 ∧ ¬ A.S 7 r = 1 ∧ A.S 2 (wod A.S r) = h)) (i + 1) = zcount (fun r => decide (A.S 5 r = 1 ∧ ¬ A.S 7 r = 1 ∧ A.S 2 (wod A.S r) = h)) i := by
          show _ + (if decide (A.S 5 i = 1 ∧ ¬ A.S 7 i = 1 ∧ A.S 2 (wod A.S i) = h) = true then 1 else 0) = _
          rw [if_neg (fun q => c (of_decide_eq_true q))]
          rfl
        rw [e] at hs
        rw [show nI (zcount (fun r => decide (A.S 5 r = 1 ∧ ¬ A.S 7 r = 1 ∧ A.S 2 (wod A.S r) = h)) i) + 0 = nI (zcount (fun r => decide (A.S 5 r = 1 ∧ ¬ A.S 7 r = 1 ∧ A.S 2 (wod A.S r) = h)) i) from Int32.add_zero _]
        exact hs
      obtain ⟨b1, b2, b3, b4, b5, b6, b7⟩ := hS.2.2.1 i hi
      rw [show 10 * 0 + i = i by omega] at b1 b3 b5
      obtain ⟨hw, ew⟩ := wS.w w4 hi
      have s2 := (hS.2.1 _ hw).2
      rw [show 4 * 0 + wod A.S i = wod A.S i by omega] at s2
      have zi : zin (nI i) 20 := n_zin (by omega) (by decide)
      dsimp only [x_int, x_lng, x_ild, x_lld, x_ald, x_ist, x_ast, x_lst, x_inc, x_ii, x_id, x_i, x_ll, x_ld, x_l, x_cmp, x_i2l, x_l2i, x_if, x_ic, x_dup, x_pop, x_dup2, x_gI, x_gL, x_gR, x_g1, x_g0, x_gP, x_pI, x_pZ, x_pL, x_pP, x_al, x_as, x_all, x_asl, x_alr, x_len, x_cpy, x_m2, x_m1, x_m2l, x_m1l, x_call, x_cv, x_ri, x_rz, x_rl, x_rv, zg, zset, zbef, zlong, zcat, cond_true, cond_false, List.take, List.drop, rv1, rv2, rv3, rv4, rv5, rv6, rv7, sm0, sm1, bl0, bl1, bl2, bl3, bl4, bl5, bl6, bl7, bl8, List.nil_append, List.cons_append, List.length_cons, List.length_nil, Nat.reduceBEq, Nat.reduceAdd, Nat.reduceSub, ta, tb, tn0, tn1, tn2, tn3, tn4, tn5, tn6, tn7, tn8, tn9, tn10, tn11, tn12, zk_81, zl_81, zk_83, zl_83, zk_79, zl_79, zk_78, zl_78, bX12_holds_66, bX12_holds_67]
      rw [n_cl (n := i) (by omega), b1, b3, b5, ew, n_cl (n := wod A.S i) (by omega), s2, n_succ i]
      exact ⟨fun c => absurd c (lt_go hT.1.2.2 (by omega) hi), fun _ => ⟨zi, fun c => ⟨zi, fun d => ⟨zi, n_zin (by omega) (by decide), fun d2 => up ⟨c, by rw [d]; decide, d2⟩, fun d2 => no (fun q => d2 q.2.2)⟩, fun d => no (fun q => q.2.1 ((wQ i hi).2.resolve_left d))⟩, fun c => no (fun q => c q.1)⟩⟩
    · dsimp only [x_int, x_lng, x_ild, x_lld, x_ald, x_ist, x_ast, x_lst, x_inc, x_ii, x_id, x_i, x_ll, x_ld, x_l, x_cmp, x_i2l, x_l2i, x_if, x_ic, x_dup, x_pop, x_dup2, x_gI, x_gL, x_gR, x_g1, x_g0, x_gP, x_pI, x_pZ, x_pL, x_pP, x_al, x_as, x_all, x_asl, x_alr, x_len, x_cpy, x_m2, x_m1, x_m2l, x_m1l, x_call, x_cv, x_ri, x_rz, x_rl, x_rv, zg, zset, zbef, zlong, zcat, cond_true, cond_false, List.take, List.drop, rv1, rv2, rv3, rv4, rv5, rv6, rv7, sm0, sm1, bl0, bl1, bl2, bl3, bl4, bl5, bl6, bl7, bl8, List.nil_append, List.cons_append, List.length_cons, List.length_nil, Nat.reduceBEq, Nat.reduceAdd, Nat.reduceSub, ta, tb, tn0, tn1, tn2, tn3, tn4, tn5, tn6, tn7, tn8, tn9, tn10, tn11, tn12]
      exact ⟨fun _ => hk, fun c => absurd c (lt_out hT.1.2.2)⟩
  · rw [if_neg no] at hk
    exact ⟨fun _ => hk, fun q => absurd rfl q⟩
