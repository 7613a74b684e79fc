/-- the trial as it stands while one looks -/
def tcS (T : aT) (h : Nat) (I : zI) : Prop := ∃ d n c : Int32, CS I 2 T (tsc T h d n c)
theorem tcS.fr {T : aT} {h : Nat} {I I' : zI} (hS : tcS T h I) (e : ∀ a c, csK a c = true → I' a 2 c = I a 2 c) : tcS T h I' := by
  obtain ⟨d, n, c, q⟩ := hS
  exact ⟨d, n, c, q.fr e⟩
theorem p_coldsBy {K : zQ} {I : zI} {L : zJ} {P : zP} {A : aA} {t i h r k : Nat} {b : Bool} (wT : WT A.T) (wD : WD A.T) (hT : CT I t A.T) (h11 : P 11 0 11 = t) (h82 : P 8 2 0 = t) (hS : tcS A.T h I) (hi : i < 24) (hr : r < A.T.1 2) (hk : k < 6) (hh : h < A.T.1 0) (e8 : A.T.2.1 8 r = nI h) (v18 : I 18 0 i = nI r) (v19 : I 19 0 i = nI k) (v20 : I 20 0 i = bI b) (hK : ∀ (I' : zI) (L' : zJ), frS 2 I I' → zeL2 L L' → tcS A.T h I' → K [.inl (nI (bsB (fun c => sol A.T h r k c == b) 10))] (I', L', P)) : mX11_coldsBy K [kbR, .inl (nI i)] (I, L, P) := by
  have h6 := hT.h6
  have w4 := hT.w4
  have r10 := hT.r10
  have eh : hnd A.T r = h := by unfold hnd; rw [e8, n_cl (by omega)]
  obtain ⟨hw, ew⟩ := wD.2.1.w w4 hr
  have ew : A.T.2.1 9 r = nI (wod (sc0 A.T) r) := ew
  obtain ⟨d9, ed⟩ := wD.d hr
  obtain ⟨d0, n0, c0, hS⟩ := hS
  obtain ⟨b1, b2, b3⟩ := hT.rap hr
  have zi : zin (nI i) 24 := n_zin hi (by decide)
  have zh : zin (nI h) 6 := n_zin (by omega) (by decide)
  show bX11_coldsBy_0 K [some (.inr (.inr (11,0))), some (.inl (nI i)), none, none, none, none, none] [] (I, L, P)
  unfold bX11_coldsBy_0
  dsimp only [x_int, x_lng, x_ild, x_lld, x_ald, x_ist, x_ast, x_lst, x_inc, x_ii, x_id, x_i, x_ll, x_ld, x_l, x_cmp, x_i2l, x_l2i, x_if, x_ic, x_dup, x_pop, x_dup2, x_gI, x_gL, x_gR, x_g1, x_g0, x_gP, x_pI, x_pZ, x_pL, x_pP, x_al, x_as, x_all, x_asl, x_alr, x_len, x_cpy, x_m2, x_m1, x_m2l, x_m1l, x_call, x_cv, x_ri, x_rz, x_rl, x_rv, zg, zset, zbef, zlong, zcat, cond_true, cond_false, List.take, List.drop, rv1, rv2, rv3, rv4, rv5, rv6, rv7, sm0, sm1, bl0, bl1, bl2, bl3, bl4, bl5, bl6, bl7, bl8, List.nil_append, List.cons_append, List.length_cons, List.length_nil, Nat.reduceBEq, Nat.reduceAdd, Nat.reduceSub, ta, tb, tn0, tn1, tn2, tn3, tn4, tn5, tn6, tn7, tn8, tn9, tn10, tn11, tn12, zk_18, zl_18, zk_33, zl_33, zl_45]
  rw [n_cl (n := i) (by omega), v18, h11, n_cl (n := r) (by omega), b3, ed]
  refine ⟨zi, hT.1, n_zin (by omega) (by decide), ?_⟩
  obtain ⟨I1, e1, w1, f1⟩ := zsI_ex I L P 8 2 13 (nI (dyr A.T r))
  rw [e1]
  have hT1 : CT I1 t A.T := hT.fr (fun a x c q => f1 a x c (fun e => by rw [e.1] at q; exact absurd q (by decide)))
  dsimp only [x_int, x_lng, x_ild, x_lld, x_ald, x_ist, x_ast, x_lst, x_inc, x_ii, x_id, x_i, x_ll, x_ld, x_l, x_cmp, x_i2l, x_l2i, x_if, x_ic, x_dup, x_pop, x_dup2, x_gI, x_gL, x_gR, x_g1, x_g0, x_gP, x_pI, x_pZ, x_pL, x_pP, x_al, x_as, x_all, x_asl, x_alr, x_len, x_cpy, x_m2, x_m1, x_m2l, x_m1l, x_call, x_cv, x_ri, x_rz, x_rl, x_rv, zg, zset, zbef, zlong, zcat, cond_true, cond_false, List.take, List.drop, rv1, rv2, rv3, rv4, rv5, rv6, rv7, sm0, sm1, bl0, bl1, bl2, bl3, bl4, bl5, bl6, bl7, bl8, List.nil_append, List.cons_append, List.length_cons, List.length_nil, Nat.reduceBEq, Nat.reduceAdd, Nat.reduceSub, ta, tb, tn0, tn1, tn2, tn3, tn4, tn5, tn6, tn7, tn8, tn9, tn10, tn11, tn12, zk_18, zl_18, zk_33, zl_33]
  rw [h11, f1 4 _ _ (by omega), b1, e8]
  refine ⟨hT.1, p_rapsAhead wT wD hT1 hr ?_⟩
  dsimp only [x_int, x_lng, x_ild, x_lld, x_ald, x_ist, x_ast, x_lst, x_inc, x_ii, x_id, x_i, x_ll, x_ld, x_l, x_cmp, x_i2l, x_l2i, x_if, x_ic, x_dup, x_pop, x_dup2, x_gI, x_gL, x_gR, x_g1, x_g0, x_gP, x_pI, x_pZ, x_pL, x_pP, x_al, x_as, x_all, x_asl, x_alr, x_len, x_cpy, x_m2, x_m1, x_m2l, x_m1l, x_call, x_cv, x_ri, x_rz, x_rl, x_rv, zg, zset, zbef, zlong, zcat, cond_true, cond_false, List.take, List.drop, rv1, rv2, rv3, rv4, rv5, rv6, rv7, sm0, sm1, bl0, bl1, bl2, bl3, bl4, bl5, bl6, bl7, bl8, List.nil_append, List.cons_append, List.length_cons, List.length_nil, Nat.reduceBEq, Nat.reduceAdd, Nat.reduceSub, ta, tb, tn0, tn1, tn2, tn3, tn4, tn5, tn6, tn7, tn8, tn9, tn10, tn11, tn12, zk_18, zl_18, zk_33, zl_33]
  refine ⟨zh, ?_⟩
  try rw [n_cl (n := h) (by omega)]
  obtain ⟨I2, e2, w2, f2⟩ := zsI_ex I1 L P 33 2 h (nI (ahd A.T r))
  rw [e2]
  have back : ∀ a x c, ¬ (x = 2 ∧ (a = 8 ∨ a = 33)) → I2 a x c = I a x c := fun a x c q => by
    rw [f2 a x c (by omega), f1 a x c (by omega)]
  have hS2 : CS I2 2 A.T (tsc A.T h (nI (dyr A.T r)) (nI (ahd A.T r)) c0) := by
    refine hS.set0 (h := h) (d := nI (dyr A.T r)) (n := nI (ahd A.T r)) (c := c0) (fun f x q1 q2 q3 => ?_) ?_ ?_ ?_ (fun a q q1 q2 q3 q4 => ?_) ?_ w2 ?_
    · unfold tsc
      rw [su_r q1, su_r q2, su_r q3, su_r q1, su_r q2, su_r q3]
    · exact su_h ⟨rfl, rfl⟩
    · unfold tsc
      rw [su_r (by omega), su_h ⟨rfl, rfl⟩]
    · unfold tsc
      rw [su_r (by omega), su_r (by omega), su_h ⟨rfl, rfl⟩]
    · rw [f2 a 2 q (by omega), f1 a 2 q (by omega)]
    · rw [back 31 2 h (by omega), (hS.1 h hh).1]
      exact su_h ⟨rfl, rfl⟩
    · rw [f2 _ _ _ (by omega), w1]
  refine zinv 10 (fun c Z M => ∃ (I' : zI) (L' : zJ) (z6 : Option zV) (x : Int32), Z = [some kbR, some (.inl (nI i)), some (.inl (nI r)), some (.inr (.inr (4, 10 * t + r))), some (.inl (nI (bsB (fun c => sol A.T h r k c == b) c))), some (.inl (nI c)), z6] ∧ M = (I', L', P) ∧ frS 2 I I' ∧ zeL2 L L' ∧ CS I' 2 A.T (tsc A.T h (nI (dyr A.T r)) (nI (ahd A.T r)) x)) ?_ ?_ ⟨I2, L, none, c0, rfl, rfl, fun a x c q1 q2 => back a x c (fun e => by
      rcases e.2 with e2 | e2
      · exact q2 ⟨e2, e.1⟩
      · exact q1 ⟨by rw [e2]; rfl, e.1⟩), zeL2.rf, hS2⟩
  · rintro c Z M hc ⟨I', L', z6, x, rfl, rfl, r1, r2, r3⟩ self hself
    have k4 : ∀ q, I' 4 (10 * t + r) q = I 4 (10 * t + r) q := fun q => r1.e (by omega)
    dsimp only [x_int, x_lng, x_ild, x_lld, x_ald, x_ist, x_ast, x_lst, x_inc, x_ii, x_id, x_i, x_ll, x_ld, x_l, x_cmp, x_i2l, x_l2i, x_if, x_ic, x_dup, x_pop, x_dup2, x_gI, x_gL, x_gR, x_g1, x_g0, x_gP, x_pI, x_pZ, x_pL, x_pP, x_al, x_as, x_all, x_asl, x_alr, x_len, x_cpy, x_m2, x_m1, x_m2l, x_m1l, x_call, x_cv, x_ri, x_rz, x_rl, x_rv, zg, zset, zbef, zlong, zcat, cond_true, cond_false, List.take, List.drop, rv1, rv2, rv3, rv4, rv5, rv6, rv7, sm0, sm1, bl0, bl1, bl2, bl3, bl4, bl5, bl6, bl7, bl8, List.nil_append, List.cons_append, List.length_cons, List.length_nil, Nat.reduceBEq, Nat.reduceAdd, Nat.reduceSub, ta, tb, tn0, tn1, tn2, tn3, tn4, tn5, tn6, tn7, tn8, tn9, tn10, tn11, tn12, zk_31, zl_31, zk_19, zl_19]
    rw [k4, b1, e8, n_cl (n := h) (by omega)]
    refine ⟨fun q => ?_, fun _ => ⟨zh, ?_⟩⟩
    · have q : nI 9 < nI c := q
      rw [n_lt (by omega) (by omega)] at q
      omega
    obtain ⟨I3, e3, w3, f3⟩ := zsI_ex I' L' P 31 2 h (nI c)
    rw [e3]
    dsimp only
    rw [n_cl (n := i) (by omega), f3 4 _ _ (by omega), f3 4 _ _ (by omega), k4, k4, b1, b2, e8, ew, f3 19 0 i (by omega), r1.e (a := 19) (by omega), v19]
    have s3 : frS 2 I I3 := fun a y q q1 q2 => by
      rw [f3 a y q (fun e => q1 ⟨by rw [e.1]; rfl, e.2.1⟩)]; exact r1 a y q q1 q2
    have hS3 : CS I3 2 A.T (tsc A.T h (nI (dyr A.T r)) (nI (ahd A.T r)) (nI c)) := by
      refine r3.set0 (h := h) (d := nI (dyr A.T r)) (n := nI (ahd A.T r)) (c := nI c) (fun f y q1 q2 q3 => ?_) ?_ ?_ ?_ (fun a q q1 q2 q3 q4 => ?_) w3 ?_ ?_
      · unfold tsc
        rw [su_r q1, su_r q1]
      · exact su_h ⟨rfl, rfl⟩
      · unfold tsc
        rw [su_r (by omega), su_h ⟨rfl, rfl⟩]
      · unfold tsc
        rw [su_r (by omega), su_r (by omega), su_h ⟨rfl, rfl⟩]
      · rw [f3 a 2 q (by omega)]
      · rw [f3 33 2 h (by omega), (r3.1 h hh).2.1]
        unfold tsc
        rw [su_r (by omega), su_h ⟨rfl, rfl⟩]
      · rw [f3 8 2 _ (by omega), r3.2.2.2.1]
        unfold tsc
        rw [su_r (by omega), su_r (by omega), su_h ⟨rfl, rfl⟩]
    refine ⟨zi, p_shake h82 (s3.T hT) hS3 hh hw hk (fun L3 hL3 => ?_)⟩
    rw [tsc_shk eh]
    dsimp only [x_int, x_lng, x_ild, x_lld, x_ald, x_ist, x_ast, x_lst, x_inc, x_ii, x_id, x_i, x_ll, x_ld, x_l, x_cmp, x_i2l, x_l2i, x_if, x_ic, x_dup, x_pop, x_dup2, x_gI, x_gL, x_gR, x_g1, x_g0, x_gP, x_pI, x_pZ, x_pL, x_pP, x_al, x_as, x_all, x_asl, x_alr, x_len, x_cpy, x_m2, x_m1, x_m2l, x_m1l, x_call, x_cv, x_ri, x_rz, x_rl, x_rv, zg, zset, zbef, zlong, zcat, cond_true, cond_false, List.take, List.drop, rv1, rv2, rv3, rv4, rv5, rv6, rv7, sm0, sm1, bl0, bl1, bl2, bl3, bl4, bl5, bl6, bl7, bl8, List.nil_append, List.cons_append, List.length_cons, List.length_nil, Nat.reduceBEq, Nat.reduceAdd, Nat.reduceSub, ta, tb, tn0, tn1, tn2, tn3, tn4, tn5, tn6, tn7, tn8, tn9, tn10, tn11, tn12, zk_20, zl_20, bX11_coldsBy_112, bX11_coldsBy_137]
    rw [n_cl (n := i) (by omega), s3.e (a := 20) (by omega), v20, n_succ c]
    have up : ∀ p : Bool, p = (sol A.T h r k c == b) → (p = true → ∀ z6 : Option zV, self [some kbR, some (.inl (nI i)), some (.inl (nI r)), some (.inr (.inr (4, 10 * t + r))), some (.inl (nI (bsB (fun c => sol A.T h r k c == b) c) ||| (1 <<< (nI c &&& 31)))), some (.inl (nI (c + 1))), z6] [] (I3, L3, P)) ∧ (p = false → ∀ z6 : Option zV, self [some kbR, some (.inl (nI i)), some (.inl (nI r)), some (.inr (.inr (4, 10 * t + r))), some (.inl (nI (bsB (fun c => sol A.T h r k c == b) c))), some (.inl (nI (c + 1))), z6] [] (I3, L3, P)) := fun p hp => by
      have st : bsB (fun c => sol A.T h r k c == b) (c + 1) = bsB (fun c => sol A.T h r k c == b) c + (if (sol A.T h r k c == b) = true then 2 ^ c else 0) := rfl
      refine ⟨fun e z6 => ?_, fun e z6 => ?_⟩
      · rw [bsB_or _ (by omega)]
        refine hself _ _ ⟨I3, L3, z6, nI c, ?_, rfl, s3, fun a y q z1 z2 => (hL3 a y q z1 z2).trans (r2 a y q z1 z2), hS3⟩
        rw [st, if_pos (by rw [← hp]; exact e)]
      · refine hself _ _ ⟨I3, L3, z6, nI c, ?_, rfl, s3, fun a y q z1 z2 => (hL3 a y q z1 z2).trans (r2 a y q z1 z2), hS3⟩
        rw [st, if_neg (by rw [← hp, e]; decide)]; rfl
    obtain ⟨u1, u2⟩ := up _ rfl
    refine ⟨fun q => ⟨zi, fun e => u1 ?_ _, fun e => u2 ?_ _⟩, fun q => ⟨zi, fun e => u1 ?_ _, fun e => u2 ?_ _⟩⟩
    · have q : shc A.T h r k (nI c) < 50 := q
      unfold sol
      rw [decide_eq_true q]
      cases b with
      | false => rfl
      | true => exact absurd e (by decide)
    · have q : shc A.T h r k (nI c) < 50 := q
      unfold sol
      rw [decide_eq_true q]
      cases b with
      | false => exact absurd rfl e
      | true => rfl
    · have q : ¬ shc A.T h r k (nI c) < 50 := q
      unfold sol
      rw [decide_eq_false q]
      cases b with
      | true => rfl
      | false => exact absurd e (by decide)
    · have q : ¬ shc A.T h r k (nI c) < 50 := q
      unfold sol
      rw [decide_eq_false q]
      cases b with
      | true => exact absurd rfl e
      | false => rfl
  · rintro Z M ⟨I', L', z6, x, rfl, rfl, r1, r2, r3⟩ self
    dsimp only [x_int, x_lng, x_ild, x_lld, x_ald, x_ist, x_ast, x_lst, x_inc, x_ii, x_id, x_i, x_ll, x_ld, x_l, x_cmp, x_i2l, x_l2i, x_if, x_ic, x_dup, x_pop, x_dup2, x_gI, x_gL, x_gR, x_g1, x_g0, x_gP, x_pI, x_pZ, x_pL, x_pP, x_al, x_as, x_all, x_asl, x_alr, x_len, x_cpy, x_m2, x_m1, x_m2l, x_m1l, x_call, x_cv, x_ri, x_rz, x_rl, x_rv, zg, zset, zbef, zlong, zcat, cond_true, cond_false, List.take, List.drop, rv1, rv2, rv3, rv4, rv5, rv6, rv7, sm0, sm1, bl0, bl1, bl2, bl3, bl4, bl5, bl6, bl7, bl8, List.nil_append, List.cons_append, List.length_cons, List.length_nil, Nat.reduceBEq, Nat.reduceAdd, Nat.reduceSub, ta, tb, tn0, tn1, tn2, tn3, tn4, tn5, tn6, tn7, tn8, tn9, tn10, tn11, tn12]
    exact ⟨fun _ => hK I' L' r1 r2 ⟨_, _, _, r3⟩, fun q => absurd (show (9 : Int32) < nI 10 by decide) q⟩
def soE (A : aA) (m h c i : Nat) : Bool := match A.O.2 i with
  | .inl _ => true
  | .inr (r, k, b) => if stk A.O m m i = true then true else if A.T.2.1 8 r = nI h then (sol A.T h r k c == b) else true
def soA (A : aA) (m h c : Nat) : Nat → Bool
  | 0 => true
  | i + 1 => soA A m h c i && soE A m h c i
def kwN (A : aA) : Nat := (kwn A).toNatClampNeg
def v_colds (A : aA) (h : Int32) : Int32 := if okN (A.T.1 0) h then nI (bsB (fun c => soA A (kwN A) h.toNatClampNeg c (kwN A)) 10) else -1
theorem RCo.k {A : aA} {I : zI} (h : RCo A.T A.O A.lm I) : kwn A = nI (kwN A) ∧ kwN A ≤ A.O.1 ∧ A.O.1 ≤ 24 := by
  obtain ⟨m, h1, h2, h3⟩ := h.m
  have : kwN A = m := by unfold kwN; rw [h1, n_cl (by omega)]
  rw [this]
  exact ⟨h1, h2, h3⟩
theorem fr22_Q {I I' : zI} (h : fr1 22 I I') : frQ I I' := fun a b c q => h a b c (fun e => by rw [e.1, e.2] at q; exact absurd q (by decide))
theorem RC.o {A : aA} {I : zI} {P : zP} (h : RC A I P) : RCo A.T A.O A.lm I := by
  obtain ⟨t, h1, h2, h3, h4, h5, h6, h7, h8, h9⟩ := h
  exact h6
theorem c_colds {K : zQ} {I : zI} {L : zJ} {P : zP} {A : aA} {h : Int32} (wT : WT A.T) (wD : WD A.T) (hC : RC A I P) (hK : ∀ (I' : zI) (L' : zJ) (P' : zP), frQ I I' → zeL2 L L' → frP P P' → K [.inl (v_colds A h)] (I', L', P')) : mX11_colds K [kbR, .inl h] (I, L, P) := by
  obtain ⟨t, hT, h11, h8, hS⟩ := hC.b
  have hO := hC.o
  obtain ⟨km, k1, k2⟩ := hO.k
  have h6 := hT.h6
  have r10 := hT.r10
  unfold v_colds at hK
  show bX11_colds_0 K [some (.inr (.inr (11,0))), some (.inl h), none, none] [] (I, L, P)
  unfold bX11_colds_0
  dsimp only [x_int, x_lng, x_ild, x_lld, x_ald, x_ist, x_ast, x_lst, x_inc, x_ii, x_id, x_i, x_ll, x_ld, x_l, x_cmp, x_i2l, x_l2i, x_if, x_ic, x_dup, x_pop, x_dup2, x_gI, x_gL, x_gR, x_g1, x_g0, x_gP, x_pI, x_pZ, x_pL, x_pP, x_al, x_as, x_all, x_asl, x_alr, x_len, x_cpy, x_m2, x_m1, x_m2l, x_m1l, x_call, x_cv, x_ri, x_rz, x_rl, x_rv, zg, zset, zbef, zlong, zcat, cond_true, cond_false, List.take, List.drop, rv1, rv2, rv3, rv4, rv5, rv6, rv7, sm0, sm1, bl0, bl1, bl2, bl3, bl4, bl5, bl6, bl7, bl8, List.nil_append, List.cons_append, List.length_cons, List.length_nil, Nat.reduceBEq, Nat.reduceAdd, Nat.reduceSub, ta, tb, tn0, tn1, tn2, tn3, tn4, tn5, tn6, tn7, tn8, tn9, tn10, tn11, tn12]
  refine p_isHandC hT h11 (fun ok => ?_) (fun no => ⟨fun _ => by rw [if_neg no] at hK; exact hK I L P frQ.rf zeL2.rf frP.rf, fun z => absurd rfl z⟩)
  rw [if_pos ok] at hK
  obtain ⟨y, rfl, hy⟩ := ok_of (by omega) ok
  rw [n_cl (n := y) (by omega)] at hK
  generalize em : kwN A = m at *
  dsimp only [x_int, x_lng, x_ild, x_lld, x_ald, x_ist, x_ast, x_lst, x_inc, x_ii, x_id, x_i, x_ll, x_ld, x_l, x_cmp, x_i2l, x_l2i, x_if, x_ic, x_dup, x_pop, x_dup2, x_gI, x_gL, x_gR, x_g1, x_g0, x_gP, x_pI, x_pZ, x_pL, x_pP, x_al, x_as, x_all, x_asl, x_alr, x_len, x_cpy, x_m2, x_m1, x_m2l, x_m1l, x_call, x_cv, x_ri, x_rz, x_rl, x_rv, zg, zset, zbef, zlong, zcat, cond_true, cond_false, List.take, List.drop, rv1, rv2, rv3, rv4, rv5, rv6, rv7, sm0, sm1, bl0, bl1, bl2, bl3, bl4, bl5, bl6, bl7, bl8, List.nil_append, List.cons_append, List.length_cons, List.length_nil, Nat.reduceBEq, Nat.reduceAdd, Nat.reduceSub, ta, tb, tn0, tn1, tn2, tn3, tn4, tn5, tn6, tn7, tn8, tn9, tn10, tn11, tn12]
  refine ⟨fun z => absurd z (by decide), fun _ => p_sift hO km k1 (fun I1 q1 st1 => ?_)⟩
  have Q1 := fr22_Q q1
  dsimp only [x_int, x_lng, x_ild, x_lld, x_ald, x_ist, x_ast, x_lst, x_inc, x_ii, x_id, x_i, x_ll, x_ld, x_l, x_cmp, x_i2l, x_l2i, x_if, x_ic, x_dup, x_pop, x_dup2, x_gI, x_gL, x_gR, x_g1, x_g0, x_gP, x_pI, x_pZ, x_pL, x_pP, x_al, x_as, x_all, x_asl, x_alr, x_len, x_cpy, x_m2, x_m1, x_m2l, x_m1l, x_call, x_cv, x_ri, x_rz, x_rl, x_rv, zg, zset, zbef, zlong, zcat, cond_true, cond_false, List.take, List.drop, rv1, rv2, rv3, rv4, rv5, rv6, rv7, sm0, sm1, bl0, bl1, bl2, bl3, bl4, bl5, bl6, bl7, bl8, List.nil_append, List.cons_append, List.length_cons, List.length_nil, Nat.reduceBEq, Nat.reduceAdd, Nat.reduceSub, ta, tb, tn0, tn1, tn2, tn3, tn4, tn5, tn6, tn7, tn8, tn9, tn10, tn11, tn12]
  rw [h11]
  refine ⟨hT.1, p_begin (j := 2) (Q1.CT hT) (fun I2 P2 q2 hS2 w2 p2 => ?_)⟩
  have Q2 := Q1.tr (frS_Q q2)
  have hP : frP P P2 := fun x y z z1 z2 => p2 x y z (fun e => z2 ⟨e.1, e.2.1⟩)
  have hT2 := Q2.CT hT
  have h112 : P2 11 0 11 = t := (p2 _ _ _ (by omega)).trans h11
  have t2 : tcS A.T y I2 := ⟨0, 0, A.T.2.1 1 y, hS2.set0 (h := y) (d := 0) (n := 0) (c := A.T.2.1 1 y) (fun f i z1 z2 z3 => by unfold tsc; rw [su_r z1, su_r z2, su_r z3]) (su_h ⟨rfl, rfl⟩) (by unfold tsc; rw [su_r (by omega), su_h ⟨rfl, rfl⟩]) (by unfold tsc; rw [su_r (by omega), su_r (by omega), su_h ⟨rfl, rfl⟩]) (fun _ _ _ _ _ _ => rfl) (hS2.1 y hy).1 (hS2.1 y hy).2.1 hS2.2.2.2.1⟩
  dsimp only [x_int, x_lng, x_ild, x_lld, x_ald, x_ist, x_ast, x_lst, x_inc, x_ii, x_id, x_i, x_ll, x_ld, x_l, x_cmp, x_i2l, x_l2i, x_if, x_ic, x_dup, x_pop, x_dup2, x_gI, x_gL, x_gR, x_g1, x_g0, x_gP, x_pI, x_pZ, x_pL, x_pP, x_al, x_as, x_all, x_asl, x_alr, x_len, x_cpy, x_m2, x_m1, x_m2l, x_m1l, x_call, x_cv, x_ri, x_rz, x_rl, x_rv, zg, zset, zbef, zlong, zcat, cond_true, cond_false, List.take, List.drop, rv1, rv2, rv3, rv4, rv5, rv6, rv7, sm0, sm1, bl0, bl1, bl2, bl3, bl4, bl5, bl6, bl7, bl8, List.nil_append, List.cons_append, List.length_cons, List.length_nil, Nat.reduceBEq, Nat.reduceAdd, Nat.reduceSub, ta, tb, tn0, tn1, tn2, tn3, tn4, tn5, tn6, tn7, tn8, tn9, tn10, tn11, tn12]
  have b0 : (1023 : Int32) = nI (bsB (fun c => soA A m y c 0) 10) := by
    rw [show (fun c => soA A m y c 0) = (fun _ => true) from rfl]
    decide
  rw [b0]
  refine zinv m (fun i Z M => ∃ (I' : zI) (L' : zJ), Z = [some kbR, some (.inl (nI y)), some (.inl (nI (bsB (fun c => soA A m y c i) 10))), some (.inl (nI i))] ∧ M = (I', L', P2) ∧ frS 2 I1 I' ∧ zeL2 L L' ∧ tcS A.T y I') ?_ ?_ ⟨I2, L, rfl, rfl, q2, zeL2.rf, t2⟩
  · rintro i Z M hi ⟨I', L', rfl, rfl, r1, r2, r3⟩ self hself
    have Q3 := Q1.tr (frS_Q r1)
    have hT3 := Q3.CT hT
    have hO3 : RCo A.T A.O A.lm I' := hO.q (fun a c q => by rw [r1.e (by omega)]; exact q1 a 0 c (by omega))
    have h5 := hO3.2.2.2.2 i (by omega)
    have s22 : I' 22 0 i = bI (stk A.O m m i) := by rw [r1.e (by omega)]; exact st1 i (by omega)
    have ss : ∀ c, soA A m y c (i + 1) = (soA A m y c i && soE A m y c i) := fun _ => rfl
    have skip : (∀ c, soE A m y c i = true) → self [some kbR, some (.inl (nI y)), some (.inl (nI (bsB (fun c => soA A m y c i) 10))), some (.inl (nI (i + 1)))] [] (I', L', P2) := fun q => by
      rw [bsB_congr (p := fun c => soA A m y c i) (q := fun c => soA A m y c (i + 1)) (fun c _ => by rw [ss, q c, Bool.and_true])]
      exact hself _ _ ⟨I', L', rfl, rfl, r1, r2, r3⟩
    dsimp only [x_int, x_lng, x_ild, x_lld, x_ald, x_ist, x_ast, x_lst, x_inc, x_ii, x_id, x_i, x_ll, x_ld, x_l, x_cmp, x_i2l, x_l2i, x_if, x_ic, x_dup, x_pop, x_dup2, x_gI, x_gL, x_gR, x_g1, x_g0, x_gP, x_pI, x_pZ, x_pL, x_pP, x_al, x_as, x_all, x_asl, x_alr, x_len, x_cpy, x_m2, x_m1, x_m2l, x_m1l, x_call, x_cv, x_ri, x_rz, x_rl, x_rv, zg, zset, zbef, zlong, zcat, cond_true, cond_false, List.take, List.drop, rv1, rv2, rv3, rv4, rv5, rv6, rv7, sm0, sm1, bl0, bl1, bl2, bl3, bl4, bl5, bl6, bl7, bl8, List.nil_append, List.cons_append, List.length_cons, List.length_nil, Nat.reduceBEq, Nat.reduceAdd, Nat.reduceSub, ta, tb, tn0, tn1, tn2, tn3, tn4, tn5, tn6, tn7, tn8, tn9, tn10, tn11, tn12]
    refine p_manyKnown (A := A) hO3 ?_
    rw [km]
    dsimp only [x_int, x_lng, x_ild, x_lld, x_ald, x_ist, x_ast, x_lst, x_inc, x_ii, x_id, x_i, x_ll, x_ld, x_l, x_cmp, x_i2l, x_l2i, x_if, x_ic, x_dup, x_pop, x_dup2, x_gI, x_gL, x_gR, x_g1, x_g0, x_gP, x_pI, x_pZ, x_pL, x_pP, x_al, x_as, x_all, x_asl, x_alr, x_len, x_cpy, x_m2, x_m1, x_m2l, x_m1l, x_call, x_cv, x_ri, x_rz, x_rl, x_rv, zg, zset, zbef, zlong, zcat, cond_true, cond_false, List.take, List.drop, rv1, rv2, rv3, rv4, rv5, rv6, rv7, sm0, sm1, bl0, bl1, bl2, bl3, bl4, bl5, bl6, bl7, bl8, List.nil_append, List.cons_append, List.length_cons, List.length_nil, Nat.reduceBEq, Nat.reduceAdd, Nat.reduceSub, ta, tb, tn0, tn1, tn2, tn3, tn4, tn5, tn6, tn7, tn8, tn9, tn10, tn11, tn12]
    refine ⟨fun q => absurd q (lt_go (n := m) rfl (by omega) hi), fun _ => p_counts (by omega) ?_⟩
    dsimp only [x_int, x_lng, x_ild, x_lld, x_ald, x_ist, x_ast, x_lst, x_inc, x_ii, x_id, x_i, x_ll, x_ld, x_l, x_cmp, x_i2l, x_l2i, x_if, x_ic, x_dup, x_pop, x_dup2, x_gI, x_gL, x_gR, x_g1, x_g0, x_gP, x_pI, x_pZ, x_pL, x_pP, x_al, x_as, x_all, x_asl, x_alr, x_len, x_cpy, x_m2, x_m1, x_m2l, x_m1l, x_call, x_cv, x_ri, x_rz, x_rl, x_rv, zg, zset, zbef, zlong, zcat, cond_true, cond_false, List.take, List.drop, rv1, rv2, rv3, rv4, rv5, rv6, rv7, sm0, sm1, bl0, bl1, bl2, bl3, bl4, bl5, bl6, bl7, bl8, List.nil_append, List.cons_append, List.length_cons, List.length_nil, Nat.reduceBEq, Nat.reduceAdd, Nat.reduceSub, ta, tb, tn0, tn1, tn2, tn3, tn4, tn5, tn6, tn7, tn8, tn9, tn10, tn11, tn12, zk_18, zl_18, zl_45, bX11_colds_88]
    rw [n_succ i, s22, h112, n_cl (n := i) (by omega)]
    cases e : A.O.2 i with
    | inl j =>
      rw [e] at h5
      rw [if_neg (by rw [h5.2]; exact n_ne1 (by omega))]
      exact ⟨fun _ => skip (fun c => by unfold soE; rw [e]), fun z => absurd rfl z⟩
    | inr v =>
      obtain ⟨r, k, b⟩ := v
      rw [e] at h5
      obtain ⟨c1, c2, c3, c4, c5, c6⟩ := h5
      rw [if_pos c6, c3]
      by_cases sk : stk A.O m m i = true
      · rw [sk, if_neg (show ¬ bI true = 0 by decide)]
        exact ⟨fun _ => skip (fun c => by unfold soE; rw [e]; dsimp only; rw [if_pos sk]), fun z => absurd rfl z⟩
      · have sk' : stk A.O m m i = false := by cases z : stk A.O m m i with
          | false => rfl
          | true => exact absurd z sk
        rw [sk', if_pos (show bI false = 0 by decide)]
        refine ⟨fun z => absurd z (by decide), fun _ => ⟨hT.1, n_zin (by omega) (by decide), n_zin (by omega) (by decide), ?_⟩⟩
        rw [n_cl (n := r) (by omega), (hT3.rap c1).1]
        refine ⟨fun q => p_coldsBy (A := A) (t := t) (h := y) (r := r) (k := k) (b := b) wT wD hT3 h112 w2 r3 (by omega) c1 c2 hy q c3 c4 c5 (fun I4 L4 q4 l4 t4 => ?_), fun q => skip (fun c => by unfold soE; rw [e]; dsimp only; rw [if_neg sk, if_neg q])⟩
        dsimp only [x_int, x_lng, x_ild, x_lld, x_ald, x_ist, x_ast, x_lst, x_inc, x_ii, x_id, x_i, x_ll, x_ld, x_l, x_cmp, x_i2l, x_l2i, x_if, x_ic, x_dup, x_pop, x_dup2, x_gI, x_gL, x_gR, x_g1, x_g0, x_gP, x_pI, x_pZ, x_pL, x_pP, x_al, x_as, x_all, x_asl, x_alr, x_len, x_cpy, x_m2, x_m1, x_m2l, x_m1l, x_call, x_cv, x_ri, x_rz, x_rl, x_rv, zg, zset, zbef, zlong, zcat, cond_true, cond_false, List.take, List.drop, rv1, rv2, rv3, rv4, rv5, rv6, rv7, sm0, sm1, bl0, bl1, bl2, bl3, bl4, bl5, bl6, bl7, bl8, List.nil_append, List.cons_append, List.length_cons, List.length_nil, Nat.reduceBEq, Nat.reduceAdd, Nat.reduceSub, ta, tb, tn0, tn1, tn2, tn3, tn4, tn5, tn6, tn7, tn8, tn9, tn10, tn11, tn12, bX11_colds_88]
        try rw [n_succ i]
        rw [bsB_and2 (Nat.le_refl _)]
        rw [bsB_congr (p := fun c => soA A m y c i && (sol A.T y r k c == b)) (q := fun c => soA A m y c (i + 1)) (fun c _ => by rw [ss]; unfold soE; rw [e]; dsimp only; rw [if_neg sk, if_pos q])]
        exact hself _ _ ⟨I4, L4, rfl, rfl, r1.tr q4, r2.tr l4, t4⟩
  · rintro Z M ⟨I', L', rfl, rfl, r1, r2, r3⟩ self
    have hO3 : RCo A.T A.O A.lm I' := hO.q (fun a c q => by rw [r1.e (by omega)]; exact q1 a 0 c (by omega))
    dsimp only [x_int, x_lng, x_ild, x_lld, x_ald, x_ist, x_ast, x_lst, x_inc, x_ii, x_id, x_i, x_ll, x_ld, x_l, x_cmp, x_i2l, x_l2i, x_if, x_ic, x_dup, x_pop, x_dup2, x_gI, x_gL, x_gR, x_g1, x_g0, x_gP, x_pI, x_pZ, x_pL, x_pP, x_al, x_as, x_all, x_asl, x_alr, x_len, x_cpy, x_m2, x_m1, x_m2l, x_m1l, x_call, x_cv, x_ri, x_rz, x_rl, x_rv, zg, zset, zbef, zlong, zcat, cond_true, cond_false, List.take, List.drop, rv1, rv2, rv3, rv4, rv5, rv6, rv7, sm0, sm1, bl0, bl1, bl2, bl3, bl4, bl5, bl6, bl7, bl8, List.nil_append, List.cons_append, List.length_cons, List.length_nil, Nat.reduceBEq, Nat.reduceAdd, Nat.reduceSub, ta, tb, tn0, tn1, tn2, tn3, tn4, tn5, tn6, tn7, tn8, tn9, tn10, tn11, tn12]
    refine p_manyKnown (A := A) hO3 ?_
    rw [km]
    dsimp only [x_int, x_lng, x_ild, x_lld, x_ald, x_ist, x_ast, x_lst, x_inc, x_ii, x_id, x_i, x_ll, x_ld, x_l, x_cmp, x_i2l, x_l2i, x_if, x_ic, x_dup, x_pop, x_dup2, x_gI, x_gL, x_gR, x_g1, x_g0, x_gP, x_pI, x_pZ, x_pL, x_pP, x_al, x_as, x_all, x_asl, x_alr, x_len, x_cpy, x_m2, x_m1, x_m2l, x_m1l, x_call, x_cv, x_ri, x_rz, x_rl, x_rv, zg, zset, zbef, zlong, zcat, cond_true, cond_false, List.take, List.drop, rv1, rv2, rv3, rv4, rv5, rv6, rv7, sm0, sm1, bl0, bl1, bl2, bl3, bl4, bl5, bl6, bl7, bl8, List.nil_append, List.cons_append, List.length_cons, List.length_nil, Nat.reduceBEq, Nat.reduceAdd, Nat.reduceSub, ta, tb, tn0, tn1, tn2, tn3, tn4, tn5, tn6, tn7, tn8, tn9, tn10, tn11, tn12]
    exact ⟨fun _ => hK I' L' P2 (Q1.tr (frS_Q r1)) r2 hP, fun q => absurd q (lt_out (n := m) rfl)⟩
