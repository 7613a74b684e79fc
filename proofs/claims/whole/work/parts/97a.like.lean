theorem setF_h {T : aT} {f : Nat} {v : Int32} : (setF T f v).2.1 f 0 = v := if_pos ⟨rfl, rfl⟩
theorem setF_r {T : aT} {f a x : Nat} {v : Int32} (h : ¬ a = f) : (setF T f v).2.1 a x = T.2.1 a x := if_neg (fun z => h z.1)
theorem CQ_fld {I I' : zI} {d f : Nat} {Q : aQ} {v : Int32} {b1 b2 : Bool} (h : CQ I d Q) (hf : f = 11 ∨ f = 12) (e : ∀ a b c, ¬ (a = 9 ∧ b = d ∧ (c = 7 ∨ c = 8 ∨ c = 9 ∨ c = 10)) → ¬ (b = 0 ∧ (a = 5 ∨ a = 7)) → I' a b c = I a b c) (h1 : I' 9 d 7 = (setF Q.1 f v).2.1 11 0) (h2 : I' 9 d 8 = (setF Q.1 f v).2.1 12 0) (h3 : I' 9 d 9 = bI b1) (h4 : I' 9 d 10 = bI b2) : CQ I' d (setF Q.1 f v, b1, b2) := by
  obtain ⟨⟨p1, p2, p3, p4, p5, p6, p7, p8⟩, g2, g3, g4, g5, g6⟩ := h
  have F : ∀ a x, ¬ a = f → (setF Q.1 f v).2.1 a x = Q.1.2.1 a x := fun a x w => if_neg (fun z => w z.1)
  refine ⟨⟨p1, ?_, p3, fun x hx => ?_, fun x hx => ?_, fun x hx => ?_, ⟨h1, h2, ?_⟩, fun x hx => ?_⟩, fun x hx q hq => ?_, h3, h4, ?_, ?_⟩
  · rw [e _ _ _ (by omega) (by omega), e _ _ _ (by omega) (by omega), e _ _ _ (by omega) (by omega)]; exact p2
  · obtain ⟨u1, u2, u3, u4⟩ := p4 x hx
    rw [e _ _ _ (by omega) (by omega), e _ _ _ (by omega) (by omega), e _ _ _ (by omega) (by omega), F 0 x (by omega), F 1 x (by omega), F 2 x (by omega)]
    refine ⟨u1, u2, u3, fun q hq => ?_⟩
    rw [e _ _ _ (by omega) (by omega), F 3 _ (by omega)]; exact u4 q hq
  · rw [e _ _ _ (by omega) (by omega), e _ _ _ (by omega) (by omega), e _ _ _ (by omega) (by omega), e _ _ _ (by omega) (by omega), F 4 x (by omega), F 5 x (by omega), F 6 x (by omega), F 7 x (by omega)]; exact p5 x hx
  · rw [e _ _ _ (by omega) (by omega), e _ _ _ (by omega) (by omega), e _ _ _ (by omega) (by omega), F 8 x (by omega), F 9 x (by omega), F 10 x (by omega)]; exact p6 x hx
  · rw [e _ _ _ (by omega) (by omega), F 13 0 (by omega)]; exact p7.2.2
  · obtain ⟨u1, u2, u3⟩ := p8 x hx
    rw [e _ _ _ (by omega) (by omega)]
    exact ⟨u1, u2, fun q hq => by rw [e _ _ _ (by omega) (by omega)]; exact u3 q hq⟩
  · rw [e _ _ _ (by omega) (by omega), g2 x hx q hq]
    unfold gapv
    exact apn_congr (fun k hk => by rw [F 3 _ (by omega)])
  · rw [e _ _ _ (by omega) (by omega)]; exact g5
  · rw [e _ _ _ (by omega) (by omega)]; exact g6
theorem p_readLike {K : zQ} {I : zI} {L : zJ} {P : zP} {B : Nat → Nat} {n m d i : Nat} {Q : aQ} (hx : rdX B n m d P) (hm : TKm B n m I) (hQ : CQ I d Q) (h : stC B n m (.inl i) I) (hk : kd B n i = 3) (hK : ∀ (I' : zI), frD d I I' → I' 9 d 12 = I 9 d 12 → TKm B n m I' → stC B n m (bodA B n Q i).1 I' → (∀ j, (bodA B n Q i).1 = .inl j → CQ I' d (bodA B n Q i).2) → K [] (I', L, P)) : mX5_readLike K [rdR] (I, L, P) := by
  obtain ⟨hE, n7, hP, d2⟩ := hx
  have bd : bodA B n Q i = (if Q.2.1 = true then .inr (3, i) else nuA B n 0 24 (.inl (i + 1)), (setF Q.1 11 (vl B n (i + 1)), true, Q.2.2)) := (if_neg (by omega)).trans ((if_neg (by omega)).trans ((if_neg (by omega)).trans (if_pos hk)))
  rw [bd] at hK
  show bX5_readLike_0 K [some (.inr (.inr (5,0)))] [] (I, L, P)
  unfold bX5_readLike_0
  dsimp only [x_int, x_lng, x_ild, x_lld, x_ald, x_ist, x_ast, x_lst, x_inc, x_ii, x_id, x_i, x_ll, x_ld, x_l, x_cmp, x_i2l, x_l2i, x_if, x_ic, x_dup, x_pop, x_dup2, x_gI, x_gL, x_gR, x_g1, x_g0, x_gP, x_pI, x_pZ, x_pL, x_pP, x_al, x_as, x_all, x_asl, x_alr, x_len, x_cpy, x_m2, x_m1, x_m2l, x_m1l, x_call, x_cv, x_ri, x_rz, x_rl, x_rv, zg, zset, zbef, zlong, zcat, cond_true, cond_false, List.take, List.drop, rv1, rv2, rv3, rv4, rv5, rv6, rv7, sm0, sm1, bl0, bl1, bl2, bl3, bl4, bl5, bl6, bl7, bl8, List.nil_append, List.cons_append, List.length_cons, List.length_nil, Nat.reduceBEq, Nat.reduceAdd, Nat.reduceSub, ta, tb, tn0, tn1, tn2, tn3, tn4, tn5, tn6, tn7, tn8, tn9, tn10, tn11, tn12]
  rw [hP, hQ.2.2.1]
  have go : ∀ (I1 : zI) (st : aR), frRd I I1 → stC B n m st I1 → nuA B n 0 24 (tkA B n 3 st) = (if Q.2.1 = true then .inr (3, i) else nuA B n 0 24 (.inl (i + 1))) → (∀ j, nuA B n 0 24 (tkA B n 3 st) = .inl j → tkA B n 3 st = .inl (i + 1)) → bX5_readLike_15 K [some rdR] [] (I1, L, P) := fun I1 st f1 c1 es ei => by
    rw [← es] at hK
    unfold bX5_readLike_15
    dsimp only [x_int, x_lng, x_ild, x_lld, x_ald, x_ist, x_ast, x_lst, x_inc, x_ii, x_id, x_i, x_ll, x_ld, x_l, x_cmp, x_i2l, x_l2i, x_if, x_ic, x_dup, x_pop, x_dup2, x_gI, x_gL, x_gR, x_g1, x_g0, x_gP, x_pI, x_pZ, x_pL, x_pP, x_al, x_as, x_all, x_asl, x_alr, x_len, x_cpy, x_m2, x_m1, x_m2l, x_m1l, x_call, x_cv, x_ri, x_rz, x_rl, x_rv, zg, zset, zbef, zlong, zcat, cond_true, cond_false, List.take, List.drop, rv1, rv2, rv3, rv4, rv5, rv6, rv7, sm0, sm1, bl0, bl1, bl2, bl3, bl4, bl5, bl6, bl7, bl8, List.nil_append, List.cons_append, List.length_cons, List.length_nil, Nat.reduceBEq, Nat.reduceAdd, Nat.reduceSub, ta, tb, tn0, tn1, tn2, tn3, tn4, tn5, tn6, tn7, tn8, tn9, tn10, tn11, tn12]
    refine p_tak (k := 3) hE n7 (by decide) (hm.r f1) c1 (fun I2 f2 c2 => ?_)
    dsimp only [x_int, x_lng, x_ild, x_lld, x_ald, x_ist, x_ast, x_lst, x_inc, x_ii, x_id, x_i, x_ll, x_ld, x_l, x_cmp, x_i2l, x_l2i, x_if, x_ic, x_dup, x_pop, x_dup2, x_gI, x_gL, x_gR, x_g1, x_g0, x_gP, x_pI, x_pZ, x_pL, x_pP, x_al, x_as, x_all, x_asl, x_alr, x_len, x_cpy, x_m2, x_m1, x_m2l, x_m1l, x_call, x_cv, x_ri, x_rz, x_rl, x_rv, zg, zset, zbef, zlong, zcat, cond_true, cond_false, List.take, List.drop, rv1, rv2, rv3, rv4, rv5, rv6, rv7, sm0, sm1, bl0, bl1, bl2, bl3, bl4, bl5, bl6, bl7, bl8, List.nil_append, List.cons_append, List.length_cons, List.length_nil, Nat.reduceBEq, Nat.reduceAdd, Nat.reduceSub, ta, tb, tn0, tn1, tn2, tn3, tn4, tn5, tn6, tn7, tn8, tn9, tn10, tn11, tn12]
    rw [hP]
    refine ⟨d2, p_takeNumber (lo := 0) (hi := 24) hE n7 ((hm.r f1).r f2) c2 (fun I3 v f3 c3 e3 => ?_)⟩
    dsimp only [x_int, x_lng, x_ild, x_lld, x_ald, x_ist, x_ast, x_lst, x_inc, x_ii, x_id, x_i, x_ll, x_ld, x_l, x_cmp, x_i2l, x_l2i, x_if, x_ic, x_dup, x_pop, x_dup2, x_gI, x_gL, x_gR, x_g1, x_g0, x_gP, x_pI, x_pZ, x_pL, x_pP, x_al, x_as, x_all, x_asl, x_alr, x_len, x_cpy, x_m2, x_m1, x_m2l, x_m1l, x_call, x_cv, x_ri, x_rz, x_rl, x_rv, zg, zset, zbef, zlong, zcat, cond_true, cond_false, List.take, List.drop, rv1, rv2, rv3, rv4, rv5, rv6, rv7, sm0, sm1, bl0, bl1, bl2, bl3, bl4, bl5, bl6, bl7, bl8, List.nil_append, List.cons_append, List.length_cons, List.length_nil, Nat.reduceBEq, Nat.reduceAdd, Nat.reduceSub, ta, tb, tn0, tn1, tn2, tn3, tn4, tn5, tn6, tn7, tn8, tn9, tn10, tn11, tn12]
    obtain ⟨J4, g4, x4, k4⟩ := zsI_ex I3 L P 9 d 7 v
    rw [g4]
    dsimp only
    rw [hP]
    obtain ⟨J5, g5, x5, k5⟩ := zsI_ex J4 L P 9 d 9 1
    rw [g5]
    have al : ∀ a b q, ¬ (a = 9 ∧ b = d ∧ (q = 7 ∨ q = 9)) → ¬ (b = 0 ∧ (a = 5 ∨ a = 7)) → J5 a b q = I a b q := fun a b q w1 w2 => by
      rw [k5 a b q (by omega), k4 a b q (by omega), f3 a b q (by omega), f2 a b q (by omega), f1 a b q (by omega)]
    refine ⟨d2, Or.inr rfl, hK J5 (fun a b q w => al a b q (fun u => w (by unfold dK; omega)) (fun u => w (by unfold dK; omega))) (al _ _ _ (by omega) (by omega)) ((((hm.r f1).r f2).r f3).q (fun a q w => by rw [k5 _ _ _ (by omega), k4 _ _ _ (by omega)])) (c3.q (fun q => by rw [k5 _ _ _ (by omega), k4 _ _ _ (by omega)]) (by rw [k5 _ _ _ (by omega), k4 _ _ _ (by omega)]) (by rw [k5 _ _ _ (by omega), k4 _ _ _ (by omega)])) (fun j ej => ?_)⟩
    have ve : v = vl B n (i + 1) := e3 _ (ei j ej)
    refine CQ_fld hQ (Or.inl rfl) (fun a b c w1 w2 => al a b c (by omega) w2) ?_ ?_ x5 ?_
    · rw [k5 _ _ _ (by omega), x4, ve]
      exact setF_h.symm
    · rw [al _ _ _ (by omega) (by omega)]
      exact hQ.1.2.2.2.2.2.2.1.2.1.trans (setF_r (by decide)).symm
    · rw [al _ _ _ (by omega) (by omega)]; exact hQ.2.2.2.1
  refine ⟨d2, fun z => go I (.inl i) frRd.rf h ?_ (fun j _ => if_pos hk), fun z => p_fail (e := 3) (by omega) h (fun I1 f1 c1 => go I1 _ f1 c1 ?_ (fun j ej => by cases ej))⟩
  · have : ¬ Q.2.1 = true := fun w => by rw [w] at z; exact absurd z (by decide)
    rw [if_neg this, show tkA B n 3 (.inl i) = .inl (i + 1) from if_pos hk]
  · have : Q.2.1 = true := by
      cases w : Q.2.1 with
      | true => rfl
      | false => rw [w] at z; exact absurd rfl z
    rw [if_pos this]; rfl
theorem p_readSeed {K : zQ} {I : zI} {L : zJ} {P : zP} {B : Nat → Nat} {n m d i : Nat} {Q : aQ} (hx : rdX B n m d P) (hm : TKm B n m I) (hQ : CQ I d Q) (h : stC B n m (.inl i) I) (hk : kd B n i = 4) (hK : ∀ (I' : zI), frD d I I' → I' 9 d 12 = I 9 d 12 → TKm B n m I' → stC B n m (bodA B n Q i).1 I' → (∀ j, (bodA B n Q i).1 = .inl j → CQ I' d (bodA B n Q i).2) → K [] (I', L, P)) : mX5_readSeed K [rdR] (I, L, P) := by
  obtain ⟨hE, n7, hP, d2⟩ := hx
  have bd : bodA B n Q i = (if Q.2.2 = true then .inr (3, i) else nuA B n 0 99999 (.inl (i + 1)), (setF Q.1 12 (vl B n (i + 1)), Q.2.1, true)) := (if_neg (by omega)).trans ((if_neg (by omega)).trans ((if_neg (by omega)).trans ((if_neg (by omega)).trans (if_pos hk))))
  rw [bd] at hK
  show bX5_readSeed_0 K [some (.inr (.inr (5,0)))] [] (I, L, P)
  unfold bX5_readSeed_0
  dsimp only [x_int, x_lng, x_ild, x_lld, x_ald, x_ist, x_ast, x_lst, x_inc, x_ii, x_id, x_i, x_ll, x_ld, x_l, x_cmp, x_i2l, x_l2i, x_if, x_ic, x_dup, x_pop, x_dup2, x_gI, x_gL, x_gR, x_g1, x_g0, x_gP, x_pI, x_pZ, x_pL, x_pP, x_al, x_as, x_all, x_asl, x_alr, x_len, x_cpy, x_m2, x_m1, x_m2l, x_m1l, x_call, x_cv, x_ri, x_rz, x_rl, x_rv, zg, zset, zbef, zlong, zcat, cond_true, cond_false, List.take, List.drop, rv1, rv2, rv3, rv4, rv5, rv6, rv7, sm0, sm1, bl0, bl1, bl2, bl3, bl4, bl5, bl6, bl7, bl8, List.nil_append, List.cons_append, List.length_cons, List.length_nil, Nat.reduceBEq, Nat.reduceAdd, Nat.reduceSub, ta, tb, tn0, tn1, tn2, tn3, tn4, tn5, tn6, tn7, tn8, tn9, tn10, tn11, tn12]
  rw [hP, hQ.2.2.2.1]
  have go : ∀ (I1 : zI) (st : aR), frRd I I1 → stC B n m st I1 → nuA B n 0 99999 (tkA B n 4 st) = (if Q.2.2 = true then .inr (3, i) else nuA B n 0 99999 (.inl (i + 1))) → (∀ j, nuA B n 0 99999 (tkA B n 4 st) = .inl j → tkA B n 4 st = .inl (i + 1)) → bX5_readSeed_15 K [some rdR] [] (I1, L, P) := fun I1 st f1 c1 es ei => by
    rw [← es] at hK
    unfold bX5_readSeed_15
    dsimp only [x_int, x_lng, x_ild, x_lld, x_ald, x_ist, x_ast, x_lst, x_inc, x_ii, x_id, x_i, x_ll, x_ld, x_l, x_cmp, x_i2l, x_l2i, x_if, x_ic, x_dup, x_pop, x_dup2, x_gI, x_gL, x_gR, x_g1, x_g0, x_gP, x_pI, x_pZ, x_pL, x_pP, x_al, x_as, x_all, x_asl, x_alr, x_len, x_cpy, x_m2, x_m1, x_m2l, x_m1l, x_call, x_cv, x_ri, x_rz, x_rl, x_rv, zg, zset, zbef, zlong, zcat, cond_true, cond_false, List.take, List.drop, rv1, rv2, rv3, rv4, rv5, rv6, rv7, sm0, sm1, bl0, bl1, bl2, bl3, bl4, bl5, bl6, bl7, bl8, List.nil_append, List.cons_append, List.length_cons, List.length_nil, Nat.reduceBEq, Nat.reduceAdd, Nat.reduceSub, ta, tb, tn0, tn1, tn2, tn3, tn4, tn5, tn6, tn7, tn8, tn9, tn10, tn11, tn12]
    refine p_tak (k := 4) hE n7 (by decide) (hm.r f1) c1 (fun I2 f2 c2 => ?_)
    dsimp only [x_int, x_lng, x_ild, x_lld, x_ald, x_ist, x_ast, x_lst, x_inc, x_ii, x_id, x_i, x_ll, x_ld, x_l, x_cmp, x_i2l, x_l2i, x_if, x_ic, x_dup, x_pop, x_dup2, x_gI, x_gL, x_gR, x_g1, x_g0, x_gP, x_pI, x_pZ, x_pL, x_pP, x_al, x_as, x_all, x_asl, x_alr, x_len, x_cpy, x_m2, x_m1, x_m2l, x_m1l, x_call, x_cv, x_ri, x_rz, x_rl, x_rv, zg, zset, zbef, zlong, zcat, cond_true, cond_false, List.take, List.drop, rv1, rv2, rv3, rv4, rv5, rv6, rv7, sm0, sm1, bl0, bl1, bl2, bl3, bl4, bl5, bl6, bl7, bl8, List.nil_append, List.cons_append, List.length_cons, List.length_nil, Nat.reduceBEq, Nat.reduceAdd, Nat.reduceSub, ta, tb, tn0, tn1, tn2, tn3, tn4, tn5, tn6, tn7, tn8, tn9, tn10, tn11, tn12]
    rw [hP]
    refine ⟨d2, p_takeNumber (lo := 0) (hi := 99999) hE n7 ((hm.r f1).r f2) c2 (fun I3 v f3 c3 e3 => ?_)⟩
    dsimp only [x_int, x_lng, x_ild, x_lld, x_ald, x_ist, x_ast, x_lst, x_inc, x_ii, x_id, x_i, x_ll, x_ld, x_l, x_cmp, x_i2l, x_l2i, x_if, x_ic, x_dup, x_pop, x_dup2, x_gI, x_gL, x_gR, x_g1, x_g0, x_gP, x_pI, x_pZ, x_pL, x_pP, x_al, x_as, x_all, x_asl, x_alr, x_len, x_cpy, x_m2, x_m1, x_m2l, x_m1l, x_call, x_cv, x_ri, x_rz, x_rl, x_rv, zg, zset, zbef, zlong, zcat, cond_true, cond_false, List.take, List.drop, rv1, rv2, rv3, rv4, rv5, rv6, rv7, sm0, sm1, bl0, bl1, bl2, bl3, bl4, bl5, bl6, bl7, bl8, List.nil_append, List.cons_append, List.length_cons, List.length_nil, Nat.reduceBEq, Nat.reduceAdd, Nat.reduceSub, ta, tb, tn0, tn1, tn2, tn3, tn4, tn5, tn6, tn7, tn8, tn9, tn10, tn11, tn12]
    obtain ⟨J4, g4, x4, k4⟩ := zsI_ex I3 L P 9 d 8 v
    rw [g4]
    dsimp only
    rw [hP]
    obtain ⟨J5, g5, x5, k5⟩ := zsI_ex J4 L P 9 d 10 1
    rw [g5]
    have al : ∀ a b q, ¬ (a = 9 ∧ b = d ∧ (q = 8 ∨ q = 10)) → ¬ (b = 0 ∧ (a = 5 ∨ a = 7)) → J5 a b q = I a b q := fun a b q w1 w2 => by
      rw [k5 a b q (by omega), k4 a b q (by omega), f3 a b q (by omega), f2 a b q (by omega), f1 a b q (by omega)]
    refine ⟨d2, Or.inr rfl, hK J5 (fun a b q w => al a b q (fun u => w (by unfold dK; omega)) (fun u => w (by unfold dK; omega))) (al _ _ _ (by omega) (by omega)) ((((hm.r f1).r f2).r f3).q (fun a q w => by rw [k5 _ _ _ (by omega), k4 _ _ _ (by omega)])) (c3.q (fun q => by rw [k5 _ _ _ (by omega), k4 _ _ _ (by omega)]) (by rw [k5 _ _ _ (by omega), k4 _ _ _ (by omega)]) (by rw [k5 _ _ _ (by omega), k4 _ _ _ (by omega)])) (fun j ej => ?_)⟩
    have ve : v = vl B n (i + 1) := e3 _ (ei j ej)
    refine CQ_fld hQ (Or.inr rfl) (fun a b c w1 w2 => al a b c (by omega) w2) ?_ ?_ ?_ x5
    · rw [al _ _ _ (by omega) (by omega)]
      exact hQ.1.2.2.2.2.2.2.1.1.trans (setF_r (by decide)).symm
    · rw [k5 _ _ _ (by omega), x4, ve]
      exact setF_h.symm
    · rw [al _ _ _ (by omega) (by omega)]; exact hQ.2.2.1
  refine ⟨d2, fun z => go I (.inl i) frRd.rf h ?_ (fun j _ => if_pos hk), fun z => p_fail (e := 3) (by omega) h (fun I1 f1 c1 => go I1 _ f1 c1 ?_ (fun j ej => by cases ej))⟩
  · have : ¬ Q.2.2 = true := fun w => by rw [w] at z; exact absurd z (by decide)
    rw [if_neg this, show tkA B n 4 (.inl i) = .inl (i + 1) from if_pos hk]
  · have : Q.2.2 = true := by
      cases w : Q.2.2 with
      | true => rfl
      | false => rw [w] at z; exact absurd rfl z
    rw [if_pos this]; rfl
-- signs of a sum
theorem p_rankAny {K : zQ} {M : zM} {x : Int32} (hK : ∀ r : Int32, K [.inl r] M) : mX5_rankOf K [.inl x] M := by
  show bX5_rankOf_0 K [some (.inl x)] [] M
  unfold bX5_rankOf_0
  dsimp only [x_int, x_lng, x_ild, x_lld, x_ald, x_ist, x_ast, x_lst, x_inc, x_ii, x_id, x_i, x_ll, x_ld, x_l, x_cmp, x_i2l, x_l2i, x_if, x_ic, x_dup, x_pop, x_dup2, x_gI, x_gL, x_gR, x_g1, x_g0, x_gP, x_pI, x_pZ, x_pL, x_pP, x_al, x_as, x_all, x_asl, x_alr, x_len, x_cpy, x_m2, x_m1, x_m2l, x_m1l, x_call, x_cv, x_ri, x_rz, x_rl, x_rv, zg, zset, zbef, zlong, zcat, cond_true, cond_false, List.take, List.drop, rv1, rv2, rv3, rv4, rv5, rv6, rv7, sm0, sm1, bl0, bl1, bl2, bl3, bl4, bl5, bl6, bl7, bl8, List.nil_append, List.cons_append, List.length_cons, List.length_nil, Nat.reduceBEq, Nat.reduceAdd, Nat.reduceSub, ta, tb, tn0, tn1, tn2, tn3, tn4, tn5, tn6, tn7, tn8, tn9, tn10, tn11, tn12, g_sw, bX5_rankOf_98, bX5_rankOf_100, bX5_rankOf_103, bX5_rankOf_119, bX5_rankOf_120]
  refine ⟨fun _ => hK _, fun _ => ?_⟩
  refine ⟨fun _ => hK _, fun _ => ?_⟩
  refine ⟨fun _ => hK _, fun _ => ?_⟩
  refine ⟨fun _ => ⟨fun _ => hK _, fun _ => ⟨fun _ => hK _, fun _ => hK _⟩⟩, fun _ => ?_⟩
  refine ⟨fun _ => ⟨fun _ => hK _, fun _ => ⟨fun _ => hK _, fun _ => hK _⟩⟩, fun _ => ?_⟩
  refine ⟨fun _ => ⟨fun _ => hK _, fun _ => ⟨fun _ => hK _, fun _ => hK _⟩⟩, fun _ => ?_⟩
  refine ⟨fun _ => ⟨fun _ => hK _, fun _ => ⟨fun _ => hK _, fun _ => hK _⟩⟩, fun _ => ?_⟩
  refine ⟨fun _ => ⟨fun _ => hK _, fun _ => ⟨fun _ => hK _, fun _ => hK _⟩⟩, fun _ => ?_⟩
  refine ⟨fun _ => ⟨fun _ => hK _, fun _ => ⟨fun _ => hK _, fun _ => hK _⟩⟩, fun _ => ?_⟩
  refine ⟨fun _ => ⟨fun _ => hK _, fun _ => ⟨fun _ => hK _, fun _ => hK _⟩⟩, fun _ => ?_⟩
  refine ⟨fun _ => ⟨fun _ => hK _, fun _ => ⟨fun _ => hK _, fun _ => hK _⟩⟩, fun _ => ?_⟩
  refine ⟨fun _ => ⟨fun _ => hK _, fun _ => ⟨fun _ => hK _, fun _ => hK _⟩⟩, fun _ => ?_⟩
  refine ⟨fun _ => ⟨fun _ => hK _, fun _ => ⟨fun _ => hK _, fun _ => hK _⟩⟩, fun _ => ?_⟩
  refine ⟨fun _ => ⟨fun _ => hK _, fun _ => ⟨fun _ => hK _, fun _ => hK _⟩⟩, fun _ => ?_⟩
  refine ⟨fun _ => ⟨fun _ => hK _, fun _ => ⟨fun _ => hK _, fun _ => hK _⟩⟩, fun _ => ?_⟩
  refine ⟨fun _ => hK _, fun _ => ?_⟩
  refine ⟨fun _ => hK _, fun _ => ?_⟩
  refine ⟨fun _ => hK _, fun _ => ?_⟩
  refine ⟨fun _ => hK _, fun _ => ?_⟩
  exact ⟨fun _ => hK _, fun _ => ⟨fun _ => hK _, fun _ => hK _⟩⟩
theorem p_rankOf {K : zQ} {M : zM} {k : Nat} (hk : k ≤ 35) (hK : K [.inl (nI (rkC k))] M) : mX5_rankOf K [.inl (nI k)] M := by
  show bX5_rankOf_0 K [some (.inl (nI k))] [] M
  unfold bX5_rankOf_0
  dsimp only [x_int, x_lng, x_ild, x_lld, x_ald, x_ist, x_ast, x_lst, x_inc, x_ii, x_id, x_i, x_ll, x_ld, x_l, x_cmp, x_i2l, x_l2i, x_if, x_ic, x_dup, x_pop, x_dup2, x_gI, x_gL, x_gR, x_g1, x_g0, x_gP, x_pI, x_pZ, x_pL, x_pP, x_al, x_as, x_all, x_asl, x_alr, x_len, x_cpy, x_m2, x_m1, x_m2l, x_m1l, x_call, x_cv, x_ri, x_rz, x_rl, x_rv, zg, zset, zbef, zlong, zcat, cond_true, cond_false, List.take, List.drop, rv1, rv2, rv3, rv4, rv5, rv6, rv7, sm0, sm1, bl0, bl1, bl2, bl3, bl4, bl5, bl6, bl7, bl8, List.nil_append, List.cons_append, List.length_cons, List.length_nil, Nat.reduceBEq, Nat.reduceAdd, Nat.reduceSub, ta, tb, tn0, tn1, tn2, tn3, tn4, tn5, tn6, tn7, tn8, tn9, tn10, tn11, tn12, g_sw, bX5_rankOf_98, bX5_rankOf_100, bX5_rankOf_103, bX5_rankOf_119, bX5_rankOf_120]
  have e : ∀ d : Nat, d < 100 → (nI k = nI d ↔ k = d) := fun d hd => n_eq (by omega) (by omega)
  refine ⟨fun z => ?_, fun y9 => ?_⟩
  · have z := (e 9 (by omega)).mp z
    subst z; exact hK
  refine ⟨fun z => ?_, fun y10 => ?_⟩
  · have z := (e 10 (by omega)).mp z
    subst z; exact hK
  refine ⟨fun z => ?_, fun y11 => ?_⟩
  · have z := (e 11 (by omega)).mp z
    subst z; exact hK
  refine ⟨fun z => ?_, fun y12 => ?_⟩
  · have z := (e 12 (by omega)).mp z
    subst z
    exact ⟨fun _ => hK, fun w => absurd (show nI 12 < nI 28 by decide) w⟩
  refine ⟨fun z => ?_, fun y13 => ?_⟩
  · have z := (e 13 (by omega)).mp z
    subst z
    exact ⟨fun _ => hK, fun w => absurd (show nI 13 < nI 28 by decide) w⟩
  refine ⟨fun z => ?_, fun y14 => ?_⟩
  · have z := (e 14 (by omega)).mp z
    subst z
    exact ⟨fun _ => hK, fun w => absurd (show nI 14 < nI 28 by decide) w⟩
  refine ⟨fun z => ?_, fun y15 => ?_⟩
  · have z := (e 15 (by omega)).mp z
    subst z
    exact ⟨fun _ => hK, fun w => absurd (show nI 15 < nI 28 by decide) w⟩
  refine ⟨fun z => ?_, fun y16 => ?_⟩
  · have z := (e 16 (by omega)).mp z
    subst z
    exact ⟨fun _ => hK, fun w => absurd (show nI 16 < nI 28 by decide) w⟩
  refine ⟨fun z => ?_, fun y17 => ?_⟩
  · have z := (e 17 (by omega)).mp z
    subst z
    exact ⟨fun _ => hK, fun w => absurd (show nI 17 < nI 28 by decide) w⟩
  refine ⟨fun z => ?_, fun y18 => ?_⟩
  · have z := (e 18 (by omega)).mp z
    subst z
    exact ⟨fun _ => hK, fun w => absurd (show nI 18 < nI 28 by decide) w⟩
  refine ⟨fun z => ?_, fun y19 => ?_⟩
  · have z := (e 19 (by omega)).mp z
    subst z
    exact ⟨fun _ => hK, fun w => absurd (show nI 19 < nI 28 by decide) w⟩
  refine ⟨fun z => ?_, fun y20 => ?_⟩
  · have z := (e 20 (by omega)).mp z
    subst z
    exact ⟨fun _ => hK, fun w => absurd (show nI 20 < nI 28 by decide) w⟩
  refine ⟨fun z => ?_, fun y21 => ?_⟩
  · have z := (e 21 (by omega)).mp z
    subst z
    exact ⟨fun _ => hK, fun w => absurd (show nI 21 < nI 28 by decide) w⟩
  refine ⟨fun z => ?_, fun y22 => ?_⟩
  · have z := (e 22 (by omega)).mp z
    subst z
    exact ⟨fun _ => hK, fun w => absurd (show nI 22 < nI 28 by decide) w⟩
  refine ⟨fun z => ?_, fun y23 => ?_⟩
  · have z := (e 23 (by omega)).mp z
    subst z
    exact ⟨fun _ => hK, fun w => absurd (show nI 23 < nI 28 by decide) w⟩
  refine ⟨fun z => ?_, fun y24 => ?_⟩
  · have z := (e 24 (by omega)).mp z
    subst z; exact hK
  refine ⟨fun z => ?_, fun y25 => ?_⟩
  · have z := (e 25 (by omega)).mp z
    subst z; exact hK
  refine ⟨fun z => ?_, fun y26 => ?_⟩
  · have z := (e 26 (by omega)).mp z
    subst z; exact hK
  refine ⟨fun z => ?_, fun y27 => ?_⟩
  · have z := (e 27 (by omega)).mp z
    subst z; exact hK
  have ne : ∀ d : Nat, ¬ nI k = nI d → ¬ k = d := fun d q z => q (by rw [z])
  have w9 := ne 9 y9
  have w10 := ne 10 y10
  have w11 := ne 11 y11
  have w12 := ne 12 y12
  have w13 := ne 13 y13
  have w14 := ne 14 y14
  have w15 := ne 15 y15
  have w16 := ne 16 y16
  have w17 := ne 17 y17
  have w18 := ne 18 y18
  have w19 := ne 19 y19
  have w20 := ne 20 y20
  have w21 := ne 21 y21
  have w22 := ne 22 y22
  have w23 := ne 23 y23
  have w24 := ne 24 y24
  have w25 := ne 25 y25
  have w26 := ne 26 y26
  have w27 := ne 27 y27
  refine ⟨fun z => ?_, fun z => ⟨fun w => ?_, fun w => ?_⟩⟩
  · have z : nI k < nI 28 := z
    rw [n_lt (by omega) (by omega)] at z
    rw [show rkC k = 0 by unfold rkC; rw [if_neg (by omega), if_neg (by omega), if_neg (by omega), if_neg (by omega), if_neg (by omega), if_neg (by omega)]] at hK
    exact hK
  · have w : nI 33 < nI k := w
    rw [n_lt (by omega) (by omega)] at w
    rw [show rkC k = 0 by unfold rkC; rw [if_neg (by omega), if_neg (by omega), if_neg (by omega), if_neg (by omega), if_neg (by omega), if_neg (by omega)]] at hK
    exact hK
  · have z : ¬ nI k < nI 28 := z
    have w : ¬ nI 33 < nI k := w
    rw [n_lt (by omega) (by omega)] at z w
    rw [show rkC k = 4 by unfold rkC; rw [if_neg (by omega), if_neg (by omega), if_neg (by omega), if_neg (by omega), if_neg (by omega), if_pos (by omega)]] at hK
    exact hK
