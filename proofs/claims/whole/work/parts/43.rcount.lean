theorem p_areIn {K : zQ} {I : zI} {L : zJ} {P : zP} {b : Nat} {T : aT} {S : aS} {w : Int32} (hb : b < 2) (hT : RT I T) (hS : RS I b T S) (hK : K [.inl (nI (aMany T S w))] (I, L, P)) : mX12_areIn K [.inr (.inr (12, 0)), .inl (nI b), .inl w] (I, L, P) := by
  have r10 := hT.r10
  show bX12_areIn_5 K [some (.inr (.inr (12, 0))), some (.inl (nI b)), some (.inl w), some (.inl 0), some (.inl 0)] [] (I, L, P)
  refine zfor (T.1 2) (fun i => [some (.inr (.inr (12, 0))), some (.inl (nI b)), some (.inl w), some (.inl (nI (zcount (fun r => decide (S 5 r = w)) i))), some (.inl (nI i))]) (fun _ => (I, L, P)) (fun i hi self hs => ?_) (fun self => ?_)
  · have up : (S 5 i = w) → self [some (.inr (.inr (12, 0))), some (.inl (nI b)), some (.inl w), some (.inl (nI (zcount (fun r => decide (S 5 r = w)) i) + 1)), some (.inl (nI (i + 1)))] [] (I, L, P) := fun c => by
      have e : zcount (fun r => decide (S 5 r = w)) (i + 1) = zcount (fun r => decide (S 5 r = w)) i + 1 := by
        show _ + (if decide (S 5 i = w) = true then 1 else 0) = _
        rw [if_pos (decide_eq_true c)]
      rw [n_succ, ← e]; exact hs
    have no : ¬ (S 5 i = w) → self [some (.inr (.inr (12, 0))), some (.inl (nI b)), some (.inl w), some (.inl (nI (zcount (fun r => decide (S 5 r = w)) i) + 0)), some (.inl (nI (i + 1)))] [] (I, L, P) := fun c => by
      have e : zcount (fun r => decide (S 5 r = w)) (i + 1) = zcount (fun r => decide (S 5 r = w)) i := by
        show _ + (if decide (S 5 i = w) = true then 1 else 0) = _
        rw [if_neg (fun q => c (of_decide_eq_true q))]
        rfl
      rw [e] at hs
      rw [show nI (zcount (fun r => decide (S 5 r = w)) i) + 0 = nI (zcount (fun r => decide (S 5 r = w)) i) from Int32.add_zero _]
      exact hs
    dsimp only [x_int, x_lng, x_ild, x_lld, x_ald, x_ist, x_ast, x_lst, x_inc, x_ii, x_id, x_i, x_ll, x_ld, x_l, x_cmp, x_i2l, x_l2i, x_if, x_ic, x_dup, x_pop, x_dup2, x_gI, x_gL, x_gR, x_g1, x_g0, x_gP, x_pI, x_pZ, x_pL, x_pP, x_al, x_as, x_all, x_asl, x_alr, x_len, x_cpy, x_m2, x_m1, x_m2l, x_m1l, x_call, x_cv, x_ri, x_rz, x_rl, x_rv, zg, zset, zbef, zlong, zcat, cond_true, cond_false, List.take, List.drop, rv1, rv2, rv3, rv4, rv5, rv6, rv7, sm0, sm1, bl0, bl1, bl2, bl3, bl4, bl5, bl6, bl7, bl8, List.nil_append, List.cons_append, List.length_cons, List.length_nil, Nat.reduceBEq, Nat.reduceAdd, Nat.reduceSub, ta, tb, tn0, tn1, tn2, tn3, tn4, tn5, tn6, tn7, tn8, tn9, tn10, tn11, tn12, zk_81, zl_81, bX12_areIn_36]
    rw [n10, n_cl (by omega), (hS.2.2.1 i hi).2.2.1, n_succ i]
    exact ⟨fun c => absurd c (lt_go hT.1.2.2 (by omega) hi), fun _ => ⟨n_zin (by omega) (by decide), up, no⟩⟩
  · dsimp only [x_int, x_lng, x_ild, x_lld, x_ald, x_ist, x_ast, x_lst, x_inc, x_ii, x_id, x_i, x_ll, x_ld, x_l, x_cmp, x_i2l, x_l2i, x_if, x_ic, x_dup, x_pop, x_dup2, x_gI, x_gL, x_gR, x_g1, x_g0, x_gP, x_pI, x_pZ, x_pL, x_pP, x_al, x_as, x_all, x_asl, x_alr, x_len, x_cpy, x_m2, x_m1, x_m2l, x_m1l, x_call, x_cv, x_ri, x_rz, x_rl, x_rv, zg, zset, zbef, zlong, zcat, cond_true, cond_false, List.take, List.drop, rv1, rv2, rv3, rv4, rv5, rv6, rv7, sm0, sm1, bl0, bl1, bl2, bl3, bl4, bl5, bl6, bl7, bl8, List.nil_append, List.cons_append, List.length_cons, List.length_nil, Nat.reduceBEq, Nat.reduceAdd, Nat.reduceSub, ta, tb, tn0, tn1, tn2, tn3, tn4, tn5, tn6, tn7, tn8, tn9, tn10, tn11, tn12]
    exact ⟨fun _ => hK, fun c => absurd c (lt_out hT.1.2.2)⟩
theorem p_wrongIn {K : zQ} {I : zI} {L : zJ} {P : zP} {b : Nat} {T : aT} {S : aS} (hb : b < 2) (hT : RT I T) (hS : RS I b T S) (hK : K [.inl (nI (aWrong T S))] (I, L, P)) : mX12_wrongIn K [.inr (.inr (12, 0)), .inl (nI b)] (I, L, P) := by
  have r10 := hT.r10
  show bX12_wrongIn_4 K [some (.inr (.inr (12, 0))), some (.inl (nI b)), some (.inl 0), some (.inl 0)] [] (I, L, P)
  refine zfor (T.1 2) (fun i => [some (.inr (.inr (12, 0))), some (.inl (nI b)), some (.inl (nI (zcount (fun r => decide (S 5 r = 1 ∧ ¬ S 6 r = T.2.1 8 r)) i))), some (.inl (nI i))]) (fun _ => (I, L, P)) (fun i hi self hs => ?_) (fun self => ?_)
  · have up : (S 5 i = 1 ∧ ¬ S 6 i = T.2.1 8 i) → self [some (.inr (.inr (12, 0))), some (.inl (nI b)), some (.inl (nI (zcount (fun r => decide (S 5 r = 1 ∧ ¬ S 6 r = T.2.1 8 r)) i) + 1)), some (.inl (nI (i + 1)))] [] (I, L, P) := fun c => by
      have e : zcount (fun r => decide (S 5 r = 1 ∧ ¬ S 6 r = T.2.1 8 r)) (i + 1) = zcount (fun r => decide (S 5 r = 1 ∧ ¬ S 6 r = T.2.1 8 r)) i + 1 := by
        show _ + (if decide (S 5 i = 1 ∧ ¬ S 6 i = T.2.1 8 i) = true then 1 else 0) = _
        rw [if_pos (decide_eq_true c)]
      rw [n_succ, ← e]; exact hs
    have no : ¬ (S 5 i = 1 ∧ ¬ S 6 i = T.2.1 8 i) → self [some (.inr (.inr (12, 0))), some (.inl (nI b)), some (.inl (nI (zcount (fun r => decide (S 5 r = 1 ∧ ¬ S 6 r = T.2.1 8 r)) i) + 0)), some (.inl (nI (i + 1)))] [] (I, L, P) := fun c => by
      have e : zcount (fun r => decide (S 5 r = 1 ∧ ¬ S 6 r = T.2.1 8 r)) (i + 1) = zcount (fun r => decide (S 5 r = 1 ∧ ¬ S 6 r = T.2.1 8 r)) i := by
        show _ + (if decide (S 5 i = 1 ∧ ¬ S 6 i = T.2.1 8 i) = true then 1 else 0) = _
        rw [if_neg (fun q => c (of_decide_eq_true q))]
        rfl
      rw [e] at hs
      rw [show nI (zcount (fun r => decide (S 5 r = 1 ∧ ¬ S 6 r = T.2.1 8 r)) i) + 0 = nI (zcount (fun r => decide (S 5 r = 1 ∧ ¬ S 6 r = T.2.1 8 r)) i) from Int32.add_zero _]
      exact hs
    obtain ⟨b1, b2, b3, b4, b5, b6, b7⟩ := hS.2.2.1 i hi
    have zi : zin (nI (10 * b + i)) 20 := n_zin (by omega) (by decide)
    dsimp only [x_int, x_lng, x_ild, x_lld, x_ald, x_ist, x_ast, x_lst, x_inc, x_ii, x_id, x_i, x_ll, x_ld, x_l, x_cmp, x_i2l, x_l2i, x_if, x_ic, x_dup, x_pop, x_dup2, x_gI, x_gL, x_gR, x_g1, x_g0, x_gP, x_pI, x_pZ, x_pL, x_pP, x_al, x_as, x_all, x_asl, x_alr, x_len, x_cpy, x_m2, x_m1, x_m2l, x_m1l, x_call, x_cv, x_ri, x_rz, x_rl, x_rv, zg, zset, zbef, zlong, zcat, cond_true, cond_false, List.take, List.drop, rv1, rv2, rv3, rv4, rv5, rv6, rv7, sm0, sm1, bl0, bl1, bl2, bl3, bl4, bl5, bl6, bl7, bl8, List.nil_append, List.cons_append, List.length_cons, List.length_nil, Nat.reduceBEq, Nat.reduceAdd, Nat.reduceSub, ta, tb, tn0, tn1, tn2, tn3, tn4, tn5, tn6, tn7, tn8, tn9, tn10, tn11, tn12, zk_81, zl_81, zk_82, zl_82, zk_63, zl_63, bX12_wrongIn_52, bX12_wrongIn_53]
    rw [n10, n_cl (n := 10 * b + i) (by omega), n_cl (n := i) (by omega), b3, b4, (hT.rap hi).1, n_succ i]
    exact ⟨fun c => absurd c (lt_go hT.1.2.2 (by omega) hi), fun _ => ⟨zi, fun c => ⟨zi, n_zin (by omega) (by decide), fun d => no (fun q => q.2 d), fun d => up ⟨c, d⟩⟩, fun c => no (fun q => c q.1)⟩⟩
  · dsimp only [x_int, x_lng, x_ild, x_lld, x_ald, x_ist, x_ast, x_lst, x_inc, x_ii, x_id, x_i, x_ll, x_ld, x_l, x_cmp, x_i2l, x_l2i, x_if, x_ic, x_dup, x_pop, x_dup2, x_gI, x_gL, x_gR, x_g1, x_g0, x_gP, x_pI, x_pZ, x_pL, x_pP, x_al, x_as, x_all, x_asl, x_alr, x_len, x_cpy, x_m2, x_m1, x_m2l, x_m1l, x_call, x_cv, x_ri, x_rz, x_rl, x_rv, zg, zset, zbef, zlong, zcat, cond_true, cond_false, List.take, List.drop, rv1, rv2, rv3, rv4, rv5, rv6, rv7, sm0, sm1, bl0, bl1, bl2, bl3, bl4, bl5, bl6, bl7, bl8, List.nil_append, List.cons_append, List.length_cons, List.length_nil, Nat.reduceBEq, Nat.reduceAdd, Nat.reduceSub, ta, tb, tn0, tn1, tn2, tn3, tn4, tn5, tn6, tn7, tn8, tn9, tn10, tn11, tn12]
    exact ⟨fun _ => hK, fun c => absurd c (lt_out hT.1.2.2)⟩
def aFaded (T : aT) (S : aS) : Nat := zcount (fun r => decide (S 7 r = 1)) (T.1 2)
theorem p_fadedIn {K : zQ} {I : zI} {L : zJ} {P : zP} {b : Nat} {T : aT} {S : aS} (hb : b < 2) (hT : RT I T) (hS : RS I b T S) (wQ : WQ T S) (hK : K [.inl (nI (aFaded T S))] (I, L, P)) : mX12_fadedIn K [.inr (.inr (12, 0)), .inl (nI b)] (I, L, P) := by
  have r10 := hT.r10
  show bX12_fadedIn_4 K [some (.inr (.inr (12, 0))), some (.inl (nI b)), some (.inl 0), some (.inl 0)] [] (I, L, P)
  refine zfor (T.1 2) (fun i => [some (.inr (.inr (12, 0))), some (.inl (nI b)), some (.inl (nI (zcount (fun r => decide (S 7 r = 1)) i))), some (.inl (nI i))]) (fun _ => (I, L, P)) (fun i hi self hs => ?_) (fun self => ?_)
  · have up : (S 7 i = 1) → self [some (.inr (.inr (12, 0))), some (.inl (nI b)), some (.inl (nI (zcount (fun r => decide (S 7 r = 1)) i) + 1)), some (.inl (nI (i + 1)))] [] (I, L, P) := fun c => by
      have e : zcount (fun r => decide (S 7 r = 1)) (i + 1) = zcount (fun r => decide (S 7 r = 1)) i + 1 := by
        show _ + (if decide (S 7 i = 1) = true then 1 else 0) = _
        rw [if_pos (decide_eq_true c)]
      rw [n_succ, ← e]; exact hs
    have no : ¬ (S 7 i = 1) → self [some (.inr (.inr (12, 0))), some (.inl (nI b)), some (.inl (nI (zcount (fun r => decide (S 7 r = 1)) i) + 0)), some (.inl (nI (i + 1)))] [] (I, L, P) := fun c => by
      have e : zcount (fun r => decide (S 7 r = 1)) (i + 1) = zcount (fun r => decide (S 7 r = 1)) i := by
        show _ + (if decide (S 7 i = 1) = true then 1 else 0) = _
        rw [if_neg (fun q => c (of_decide_eq_true q))]
        rfl
      rw [e] at hs
      rw [show nI (zcount (fun r => decide (S 7 r = 1)) i) + 0 = nI (zcount (fun r => decide (S 7 r = 1)) i) from Int32.add_zero _]
      exact hs
    obtain ⟨b1, b2, b3, b4, b5, b6, b7⟩ := hS.2.2.1 i hi
    dsimp only [x_int, x_lng, x_ild, x_lld, x_ald, x_ist, x_ast, x_lst, x_inc, x_ii, x_id, x_i, x_ll, x_ld, x_l, x_cmp, x_i2l, x_l2i, x_if, x_ic, x_dup, x_pop, x_dup2, x_gI, x_gL, x_gR, x_g1, x_g0, x_gP, x_pI, x_pZ, x_pL, x_pP, x_al, x_as, x_all, x_asl, x_alr, x_len, x_cpy, x_m2, x_m1, x_m2l, x_m1l, x_call, x_cv, x_ri, x_rz, x_rl, x_rv, zg, zset, zbef, zlong, zcat, cond_true, cond_false, List.take, List.drop, rv1, rv2, rv3, rv4, rv5, rv6, rv7, sm0, sm1, bl0, bl1, bl2, bl3, bl4, bl5, bl6, bl7, bl8, List.nil_append, List.cons_append, List.length_cons, List.length_nil, Nat.reduceBEq, Nat.reduceAdd, Nat.reduceSub, ta, tb, tn0, tn1, tn2, tn3, tn4, tn5, tn6, tn7, tn8, tn9, tn10, tn11, tn12, zk_83, zl_83, bX12_fadedIn_32]
    rw [n10, n_cl (n := 10 * b + i) (by omega), b5, n_succ i]
    exact ⟨fun c => absurd c (lt_go hT.1.2.2 (by omega) hi), fun _ => ⟨n_zin (by omega) (by decide), fun c => no (fun q => by rw [c] at q; exact absurd q (by decide)), fun c => up ((wQ i hi).2.resolve_left c)⟩⟩
  · dsimp only [x_int, x_lng, x_ild, x_lld, x_ald, x_ist, x_ast, x_lst, x_inc, x_ii, x_id, x_i, x_ll, x_ld, x_l, x_cmp, x_i2l, x_l2i, x_if, x_ic, x_dup, x_pop, x_dup2, x_gI, x_gL, x_gR, x_g1, x_g0, x_gP, x_pI, x_pZ, x_pL, x_pP, x_al, x_as, x_all, x_asl, x_alr, x_len, x_cpy, x_m2, x_m1, x_m2l, x_m1l, x_call, x_cv, x_ri, x_rz, x_rl, x_rv, zg, zset, zbef, zlong, zcat, cond_true, cond_false, List.take, List.drop, rv1, rv2, rv3, rv4, rv5, rv6, rv7, sm0, sm1, bl0, bl1, bl2, bl3, bl4, bl5, bl6, bl7, bl8, List.nil_append, List.cons_append, List.length_cons, List.length_nil, Nat.reduceBEq, Nat.reduceAdd, Nat.reduceSub, ta, tb, tn0, tn1, tn2, tn3, tn4, tn5, tn6, tn7, tn8, tn9, tn10, tn11, tn12]
    exact ⟨fun _ => hK, fun c => absurd c (lt_out hT.1.2.2)⟩
theorem coldR_pln {I : zI} {b h : Nat} (hp : pln I) (hh : h < 2147483648) : coldR I b h = I 76 0 (6 * b + h) := by
  unfold coldR
  rw [hp.2.1, hp.2.2.2.1, if_neg (by decide), if_neg (fun q => by
    have h0 := congrArg Int32.toInt q
    rw [n_toInt hh] at h0
    have : (-1 : Int32).toInt = -1 := rfl
    omega)]
theorem agedR_pln {I : zI} {h : Nat} (hp : pln I) : agedR I h = I 57 0 h := by
  unfold agedR
  rw [hp.2.1, if_neg (by decide)]
theorem hardR_pln {I : zI} {h : Nat} (hp : pln I) : hardR I h = I 61 0 h := by
  unfold hardR
  rw [hp.2.1, if_neg (by decide)]
theorem likeR_pln {I : zI} (hp : pln I) : likeR I = I 54 0 0 := by
  unfold likeR
  rw [hp.2.1, if_neg (by decide)]
theorem laid_pln {I I' : zI} (h : laid I I') (hp : pln I) : pln I' := by
  have pl : ∀ s, I' 12 0 s = I 12 0 s := fun s => h.1 12 0 s (fun e => by rcases e.2 with e | e | e | e | e <;> omega)
  obtain ⟨z1, z2, z3, z4, z5⟩ := hp
  exact ⟨(pl _).trans z1, (pl _).trans z2, (pl _).trans z3, (pl _).trans z4, (pl _).trans z5⟩
theorem laid_RT {I I' : zI} {T : aT} (h : laid I I') (hT : RT I T) : RT I' T := hT.fr (fun a c q => h.1 a 0 c (fun e => by
    have q : ((Nat.ble 54 a && Nat.ble a 71) || (a == 12 && (Nat.ble 12 c && Nat.ble c 15))) = true := q
    simp only [Bool.or_eq_true, Bool.and_eq_true, Nat.ble_eq, beq_iff_eq] at q
    rcases e.2 with e | e | e | e | e <;> omega))
theorem laid_RS {I I' : zI} {T : aT} {S : aS} (hz : ∀ c, c < T.1 2 → zb (I 83 0 c)) (h : laid I I') (hT : RT I T) (hp : pln I) (hS : RS I 0 T S) : RS I' 1 T S := by
  have hp' := laid_pln h hp
  have h6 := hT.h6
  have w4 := hT.w4
  have r10 := hT.r10
  have lo : ∀ a c, (¬ upH a c) → I' a 0 c = I a 0 c := fun a c q => h.1 a 0 c (fun e => q e.2)
  obtain ⟨hf, c76, c77, c78, c79, c80, c81, c82, c83, c84, c85, c86⟩ := h
  obtain ⟨a1, a2, a3, a4, a5, a6⟩ := hS
  refine ⟨fun x hx => ?_, fun x hx => ?_, fun x hx => ?_, ?_, ?_, ?_⟩
  · obtain ⟨b1, b2, b3⟩ := a1 x hx
    rw [coldR_pln hp (by omega)] at b1
    rw [agedR_pln hp] at b3
    rw [coldR_pln hp' (by omega), agedR_pln hp', lo 57 x (fun e => by rcases e with e | e | e | e | e <;> omega)]
    refine ⟨?_, ?_, b3⟩
    · rw [← b1, show 6 * 1 + x = 6 + x by omega, show 6 * 0 + x = x by omega]; exact c76 x (by omega)
    · rw [← b2, show 6 * 1 + x = 6 + x by omega, show 6 * 0 + x = x by omega]; exact c77 x (by omega)
  · obtain ⟨b1, b2⟩ := a2 x hx
    rw [hardR_pln hp] at b1
    rw [hardR_pln hp', lo 61 x (fun e => by rcases e with e | e | e | e | e <;> omega)]
    refine ⟨b1, ?_⟩
    rw [← b2, show 4 * 1 + x = 4 + x by omega, show 4 * 0 + x = x by omega]; exact c78 x (by omega)
  · obtain ⟨b1, b2, b3, b4, b5, b6, b7⟩ := a3 x hx
    have e10 : 10 * 1 + x = 10 + x := by omega
    have e0 : 10 * 0 + x = x := by omega
    rw [e0] at b1 b2 b3 b4 b5 b6
    rw [e10]
    refine ⟨(c79 x (by omega)).trans b1, (c80 x (by omega)).trans b2, (c81 x (by omega)).trans b3, (c82 x (by omega)).trans b4, ((c83 x (by omega)).trans (nar01 (hz x hx))).trans b5, fun q => (c84 x (by omega)).trans (b6 q), fun k hk => ?_⟩
    have := b7 k hk
    rw [show 60 * 0 + 6 * x + k = 6 * x + k by omega] at this
    rw [show 60 * 1 + 6 * x + k = 60 + (6 * x + k) by omega]
    exact (c85 (6 * x + k) (by omega)).trans this
  · exact c86.trans a4
  · rw [likeR_pln hp] at a5
    rw [likeR_pln hp', lo 54 0 (fun e => by rcases e with e | e | e | e | e <;> omega)]; exact a5
  · rw [hp.2.1, if_neg (by decide)] at a6
    rw [hp'.2.1, if_neg (by decide)]; exact a6
