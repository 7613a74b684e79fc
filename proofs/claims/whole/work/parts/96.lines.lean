theorem p_readWood {K : zQ} {I : zI} {L : zJ} {P : zP} {B : Nat → Nat} {n m d i : Nat} {Q : aQ} (hx : rdX B n m d P) (hm : TKm B n m I) (hQ : CQ I d Q) (h : stC B n m (.inl i) I) (hk : kd B n i = 1) (hK : ∀ (I' : zI), frD d I I' → I' 9 d 12 = I 9 d 12 → TKm B n m I' → stC B n m (bodA B n Q i).1 I' → (∀ j, (bodA B n Q i).1 = .inl j → CQ I' d (bodA B n Q i).2) → K [] (I', L, P)) : mX5_readWood K [rdR] (I, L, P) := by
  obtain ⟨hE, n7, hP, d2⟩ := hx
  have hT := hQ.1
  have w4 := hT.w4
  have bd : bodA B n Q i = (if Q.1.1 1 < 4 then tnA B n (Q.1.2.1 0) (Q.1.1 0) (nuA B n 0 9 (nuA B n 0 99 (nnA B n (Q.1.2.1 4) (Q.1.1 1) (.inl (i + 1))))) else .inr (2, i), (addW Q.1 (woG B n Q.1 i), Q.2)) := (if_neg (by omega)).trans (if_pos hk)
  rw [bd] at hK
  show bX5_readWood_0 K [some (.inr (.inr (5,0))), none] [] (I, L, P)
  unfold bX5_readWood_0
  dsimp only [x_int, x_lng, x_ild, x_lld, x_ald, x_ist, x_ast, x_lst, x_inc, x_ii, x_id, x_i, x_ll, x_ld, x_l, x_cmp, x_i2l, x_l2i, x_if, x_ic, x_dup, x_pop, x_dup2, x_gI, x_gL, x_gR, x_g1, x_g0, x_gP, x_pI, x_pZ, x_pL, x_pP, x_al, x_as, x_all, x_asl, x_alr, x_len, x_cpy, x_m2, x_m1, x_m2l, x_m1l, x_call, x_cv, x_ri, x_rz, x_rl, x_rv, zg, zset, zbef, zlong, zcat, cond_true, cond_false, List.take, List.drop, rv1, rv2, rv3, rv4, rv5, rv6, rv7, sm0, sm1, bl0, bl1, bl2, bl3, bl4, bl5, bl6, bl7, bl8, List.nil_append, List.cons_append, List.length_cons, List.length_nil, Nat.reduceBEq, Nat.reduceAdd, Nat.reduceSub, ta, tb, tn0, tn1, tn2, tn3, tn4, tn5, tn6, tn7, tn8, tn9, tn10, tn11, tn12]
  rw [hP, hT.2.1.2.1]
  refine ⟨d2, fun z => ?_, fun z => p_fail (e := 2) (by omega) h (fun I1 f1 c1 => ?_)⟩
  · have z : nI (Q.1.1 1) < nI 4 := z
    rw [n_lt (by omega) (by omega)] at z
    dsimp only at hK
    rw [if_pos z] at hK
    refine p_tak (k := 1) hE n7 (by decide) hm h (fun I1 f1 c1 => ?_)
    have tk : tkA B n 1 (.inl i) = .inl (i + 1) := if_pos hk
    rw [tk] at c1
    have hQ1 := hQ.rd f1
    dsimp only [x_int, x_lng, x_ild, x_lld, x_ald, x_ist, x_ast, x_lst, x_inc, x_ii, x_id, x_i, x_ll, x_ld, x_l, x_cmp, x_i2l, x_l2i, x_if, x_ic, x_dup, x_pop, x_dup2, x_gI, x_gL, x_gR, x_g1, x_g0, x_gP, x_pI, x_pZ, x_pL, x_pP, x_al, x_as, x_all, x_asl, x_alr, x_len, x_cpy, x_m2, x_m1, x_m2l, x_m1l, x_call, x_cv, x_ri, x_rz, x_rl, x_rv, zg, zset, zbef, zlong, zcat, cond_true, cond_false, List.take, List.drop, rv1, rv2, rv3, rv4, rv5, rv6, rv7, sm0, sm1, bl0, bl1, bl2, bl3, bl4, bl5, bl6, bl7, bl8, List.nil_append, List.cons_append, List.length_cons, List.length_nil, Nat.reduceBEq, Nat.reduceAdd, Nat.reduceSub, ta, tb, tn0, tn1, tn2, tn3, tn4, tn5, tn6, tn7, tn8, tn9, tn10, tn11, tn12, zl_44]
    rw [hP, hQ1.1.2.1.2.1]
    generalize hc : Q.1.1 1 = c at *
    rw [n_cl (n := c) (by omega)]
    refine ⟨d2, d2, n_zin (by omega) (by decide), ?_⟩
    refine p_takeNew (hd := false) hE n7 hP hQ1.1 (hm.r f1) c1 (fun I2 v0 f2 c2 e0 => ?_)
    rw [if_neg (by decide), if_neg (by decide), hc] at c2
    dsimp only [x_int, x_lng, x_ild, x_lld, x_ald, x_ist, x_ast, x_lst, x_inc, x_ii, x_id, x_i, x_ll, x_ld, x_l, x_cmp, x_i2l, x_l2i, x_if, x_ic, x_dup, x_pop, x_dup2, x_gI, x_gL, x_gR, x_g1, x_g0, x_gP, x_pI, x_pZ, x_pL, x_pP, x_al, x_as, x_all, x_asl, x_alr, x_len, x_cpy, x_m2, x_m1, x_m2l, x_m1l, x_call, x_cv, x_ri, x_rz, x_rl, x_rv, zg, zset, zbef, zlong, zcat, cond_true, cond_false, List.take, List.drop, rv1, rv2, rv3, rv4, rv5, rv6, rv7, sm0, sm1, bl0, bl1, bl2, bl3, bl4, bl5, bl6, bl7, bl8, List.nil_append, List.cons_append, List.length_cons, List.length_nil, Nat.reduceBEq, Nat.reduceAdd, Nat.reduceSub, ta, tb, tn0, tn1, tn2, tn3, tn4, tn5, tn6, tn7, tn8, tn9, tn10, tn11, tn12]
    obtain ⟨J2, g2, x2, k2⟩ := zsI_ex I2 L P 10 (4 * d + c) 0 v0
    rw [g2]
    have s2 : stC B n m _ J2 := c2.q (fun q => k2 _ _ _ (by omega)) (k2 _ _ _ (by omega)) (k2 _ _ _ (by omega))
    have m2 : TKm B n m J2 := ((hm.r f1).r f2).q (fun a q w => k2 _ _ _ (by omega))
    have a2 : ∀ a b q, ¬ (a = 10 ∧ b = 4 * d + c) → ¬ (b = 0 ∧ (a = 5 ∨ a = 7)) → J2 a b q = I a b q := fun a b q w1 w2 => by
      rw [k2 a b q (by omega), f2 a b q (by omega), f1 a b q (by omega)]
    clear f1 f2 c2 c1 g2 k2 hQ1
    refine p_takeNumber (lo := 0) (hi := 99) hE n7 m2 s2 (fun I3 v1 f3 c3 e1 => ?_)
    dsimp only [x_int, x_lng, x_ild, x_lld, x_ald, x_ist, x_ast, x_lst, x_inc, x_ii, x_id, x_i, x_ll, x_ld, x_l, x_cmp, x_i2l, x_l2i, x_if, x_ic, x_dup, x_pop, x_dup2, x_gI, x_gL, x_gR, x_g1, x_g0, x_gP, x_pI, x_pZ, x_pL, x_pP, x_al, x_as, x_all, x_asl, x_alr, x_len, x_cpy, x_m2, x_m1, x_m2l, x_m1l, x_call, x_cv, x_ri, x_rz, x_rl, x_rv, zg, zset, zbef, zlong, zcat, cond_true, cond_false, List.take, List.drop, rv1, rv2, rv3, rv4, rv5, rv6, rv7, sm0, sm1, bl0, bl1, bl2, bl3, bl4, bl5, bl6, bl7, bl8, List.nil_append, List.cons_append, List.length_cons, List.length_nil, Nat.reduceBEq, Nat.reduceAdd, Nat.reduceSub, ta, tb, tn0, tn1, tn2, tn3, tn4, tn5, tn6, tn7, tn8, tn9, tn10, tn11, tn12]
    obtain ⟨J3, g3, x3, k3⟩ := zsI_ex I3 L P 10 (4 * d + c) 1 v1
    rw [g3]
    have s3 : stC B n m _ J3 := c3.q (fun q => k3 _ _ _ (by omega)) (k3 _ _ _ (by omega)) (k3 _ _ _ (by omega))
    have m3 : TKm B n m J3 := (m2.r f3).q (fun a q w => k3 _ _ _ (by omega))
    have a3 : ∀ a b q, ¬ (a = 10 ∧ b = 4 * d + c) → ¬ (b = 0 ∧ (a = 5 ∨ a = 7)) → J3 a b q = I a b q := fun a b q w1 w2 => by
      rw [k3 a b q (by omega), f3 a b q (by omega)]; exact a2 a b q w1 w2
    have y30 : J3 10 (4 * d + c) 0 = v0 := by rw [k3 _ _ _ (by omega), f3 _ _ _ (by omega)]; exact x2
    clear f3 c3 g3 k3 s2 m2 a2 x2
    refine p_takeNumber (lo := 0) (hi := 9) hE n7 m3 s3 (fun I4 v2 f4 c4 e2 => ?_)
    dsimp only [x_int, x_lng, x_ild, x_lld, x_ald, x_ist, x_ast, x_lst, x_inc, x_ii, x_id, x_i, x_ll, x_ld, x_l, x_cmp, x_i2l, x_l2i, x_if, x_ic, x_dup, x_pop, x_dup2, x_gI, x_gL, x_gR, x_g1, x_g0, x_gP, x_pI, x_pZ, x_pL, x_pP, x_al, x_as, x_all, x_asl, x_alr, x_len, x_cpy, x_m2, x_m1, x_m2l, x_m1l, x_call, x_cv, x_ri, x_rz, x_rl, x_rv, zg, zset, zbef, zlong, zcat, cond_true, cond_false, List.take, List.drop, rv1, rv2, rv3, rv4, rv5, rv6, rv7, sm0, sm1, bl0, bl1, bl2, bl3, bl4, bl5, bl6, bl7, bl8, List.nil_append, List.cons_append, List.length_cons, List.length_nil, Nat.reduceBEq, Nat.reduceAdd, Nat.reduceSub, ta, tb, tn0, tn1, tn2, tn3, tn4, tn5, tn6, tn7, tn8, tn9, tn10, tn11, tn12]
    obtain ⟨J4, g4, x4, k4⟩ := zsI_ex I4 L P 10 (4 * d + c) 2 v2
    rw [g4]
    have s4 : stC B n m _ J4 := c4.q (fun q => k4 _ _ _ (by omega)) (k4 _ _ _ (by omega)) (k4 _ _ _ (by omega))
    have m4 : TKm B n m J4 := (m3.r f4).q (fun a q w => k4 _ _ _ (by omega))
    have a4 : ∀ a b q, ¬ (a = 10 ∧ b = 4 * d + c) → ¬ (b = 0 ∧ (a = 5 ∨ a = 7)) → J4 a b q = I a b q := fun a b q w1 w2 => by
      rw [k4 a b q (by omega), f4 a b q (by omega)]; exact a3 a b q w1 w2
    have y40 : J4 10 (4 * d + c) 0 = v0 := by rw [k4 _ _ _ (by omega), f4 _ _ _ (by omega)]; exact y30
    have y41 : J4 10 (4 * d + c) 1 = v1 := by rw [k4 _ _ _ (by omega), f4 _ _ _ (by omega)]; exact x3
    have hQ4 : CQ J4 d Q := CQ_set (x := 0) hQ (fun a b q w1 w2 => a4 a b q (by omega) w2)
    clear f4 c4 g4 k4 s3 m3 a3 x3 y30
    refine p_takeTold (hd := true) hE n7 hP hQ4.1 m4 s4 (fun I5 v3 f5 c5 e3 => ?_)
    rw [if_pos rfl, if_pos rfl] at c5 e3
    dsimp only [x_int, x_lng, x_ild, x_lld, x_ald, x_ist, x_ast, x_lst, x_inc, x_ii, x_id, x_i, x_ll, x_ld, x_l, x_cmp, x_i2l, x_l2i, x_if, x_ic, x_dup, x_pop, x_dup2, x_gI, x_gL, x_gR, x_g1, x_g0, x_gP, x_pI, x_pZ, x_pL, x_pP, x_al, x_as, x_all, x_asl, x_alr, x_len, x_cpy, x_m2, x_m1, x_m2l, x_m1l, x_call, x_cv, x_ri, x_rz, x_rl, x_rv, zg, zset, zbef, zlong, zcat, cond_true, cond_false, List.take, List.drop, rv1, rv2, rv3, rv4, rv5, rv6, rv7, sm0, sm1, bl0, bl1, bl2, bl3, bl4, bl5, bl6, bl7, bl8, List.nil_append, List.cons_append, List.length_cons, List.length_nil, Nat.reduceBEq, Nat.reduceAdd, Nat.reduceSub, ta, tb, tn0, tn1, tn2, tn3, tn4, tn5, tn6, tn7, tn8, tn9, tn10, tn11, tn12]
    obtain ⟨J5, g5, x5, k5⟩ := zsI_ex I5 L P 10 (4 * d + c) 3 v3
    rw [g5]
    have s5 : stC B n m _ J5 := c5.q (fun q => k5 _ _ _ (by omega)) (k5 _ _ _ (by omega)) (k5 _ _ _ (by omega))
    have m5 : TKm B n m J5 := (m4.r f5).q (fun a q w => k5 _ _ _ (by omega))
    have a5 : ∀ a b q, ¬ (a = 10 ∧ b = 4 * d + c) → ¬ (b = 0 ∧ (a = 5 ∨ a = 7)) → J5 a b q = I a b q := fun a b q w1 w2 => by
      rw [k5 a b q (by omega), f5 a b q (by omega)]; exact a4 a b q w1 w2
    have z0 : J5 10 (4 * d + c) 0 = v0 := by rw [k5 _ _ _ (by omega), f5 _ _ _ (by omega)]; exact y40
    have z1 : J5 10 (4 * d + c) 1 = v1 := by rw [k5 _ _ _ (by omega), f5 _ _ _ (by omega)]; exact y41
    have z2 : J5 10 (4 * d + c) 2 = v2 := by rw [k5 _ _ _ (by omega), f5 _ _ _ (by omega)]; exact x4
    clear f5 c5 g5 k5 s4 m4 a4 x4 y40 y41
    have fD5 : frD d I J5 := fun a b q w => a5 a b q (fun u => w (by unfold dK; omega)) (fun u => w (by unfold dK; omega))
    dsimp only [x_int, x_lng, x_ild, x_lld, x_ald, x_ist, x_ast, x_lst, x_inc, x_ii, x_id, x_i, x_ll, x_ld, x_l, x_cmp, x_i2l, x_l2i, x_if, x_ic, x_dup, x_pop, x_dup2, x_gI, x_gL, x_gR, x_g1, x_g0, x_gP, x_pI, x_pZ, x_pL, x_pP, x_al, x_as, x_all, x_asl, x_alr, x_len, x_cpy, x_m2, x_m1, x_m2l, x_m1l, x_call, x_cv, x_ri, x_rz, x_rl, x_rv, zg, zset, zbef, zlong, zcat, cond_true, cond_false, List.take, List.drop, rv1, rv2, rv3, rv4, rv5, rv6, rv7, sm0, sm1, bl0, bl1, bl2, bl3, bl4, bl5, bl6, bl7, bl8, List.nil_append, List.cons_append, List.length_cons, List.length_nil, Nat.reduceBEq, Nat.reduceAdd, Nat.reduceSub, ta, tb, tn0, tn1, tn2, tn3, tn4, tn5, tn6, tn7, tn8, tn9, tn10, tn11, tn12]
    rcases s5.ft with ⟨t0, j, ej⟩ | ⟨t0, x, ex⟩
    · refine ⟨fun _ => ?_, fun y => absurd t0 y⟩
      rw [hP]
      obtain ⟨i5, b5, q1, q2, q3⟩ := tnA_inl ej
      obtain ⟨i4, q4, q5, -⟩ := nuA_inl q1
      obtain ⟨i3, q7, q8, -⟩ := nuA_inl q4
      obtain ⟨i2, q10, q11⟩ := nnA_inl q7
      cases q10
      have v0e : v0 = vl B n (i + 1) := e0 _ rfl
      have v1e : v1 = vl B n (i + 2) := by rw [e1 _ q7, q11]
      have v2e : v2 = vl B n (i + 3) := by rw [e2 _ q4, q8, q11]
      have v3e : v3 = wbR (fnd (Q.1.2.1 0) (vl B n (i + 4)) (Q.1.1 0)) := by rw [e3 _ q1, q5, q8, q11]
      have c9 : J5 9 d 5 = nI c := by
        rw [a5 9 d 5 (by omega) (by omega)]
        have := hT.2.1.2.1
        rw [hc] at this
        exact this
      refine ⟨d2, ?_⟩
      rw [c9, n_succ]
      obtain ⟨J7, g7, x7, k7⟩ := zsI_ex J5 L P 9 d 5 (nI (c + 1))
      rw [g7]
      have al : ∀ a b q, ¬ ((a = 10 ∧ b = 4 * d + c) ∨ (a = 9 ∧ b = d ∧ q = 5)) → ¬ (b = 0 ∧ (a = 5 ∨ a = 7)) → J7 a b q = I a b q := fun a b q w1 w2 => by
        rw [k7 a b q (by omega), a5 a b q (by omega) w2]
      dsimp only [bX5_readWood_98, x_int, x_lng, x_ild, x_lld, x_ald, x_ist, x_ast, x_lst, x_inc, x_ii, x_id, x_i, x_ll, x_ld, x_l, x_cmp, x_i2l, x_l2i, x_if, x_ic, x_dup, x_pop, x_dup2, x_gI, x_gL, x_gR, x_g1, x_g0, x_gP, x_pI, x_pZ, x_pL, x_pP, x_al, x_as, x_all, x_asl, x_alr, x_len, x_cpy, x_m2, x_m1, x_m2l, x_m1l, x_call, x_cv, x_ri, x_rz, x_rl, x_rv, zg, zset, zbef, zlong, zcat, cond_true, cond_false, List.take, List.drop, rv1, rv2, rv3, rv4, rv5, rv6, rv7, sm0, sm1, bl0, bl1, bl2, bl3, bl4, bl5, bl6, bl7, bl8, List.nil_append, List.cons_append, List.length_cons, List.length_nil, Nat.reduceBEq, Nat.reduceAdd, Nat.reduceSub, ta, tb, tn0, tn1, tn2, tn3, tn4, tn5, tn6, tn7, tn8, tn9, tn10, tn11, tn12]
      refine hK J7 (fun a b q w => ?_) (al _ _ _ (by omega) (by omega)) (m5.q (fun a q w => k7 _ _ _ (by omega))) (s5.q (fun q => k7 _ _ _ (by omega)) (k7 _ _ _ (by omega)) (k7 _ _ _ (by omega))) (fun _ _ => ?_)
      · rw [k7 a b q (fun u => w (by unfold dK; omega))]; exact fD5 a b q w
      · obtain ⟨p1, p2, p3, p4, p5, p6⟩ := hQ
        have T0 : (addW Q.1 (woG B n Q.1 i)).1 1 = c + 1 := by rw [← hc]; rfl
        have T1 : ∀ q, ¬ q = 1 → (addW Q.1 (woG B n Q.1 i)).1 q = Q.1.1 q := fun q w => if_neg w
        have F : ∀ a x, ¬ ((4 ≤ a ∧ a ≤ 7) ∧ x = c) → (addW Q.1 (woG B n Q.1 i)).2.1 a x = Q.1.2.1 a x := fun a x w1 => by
          unfold addW
          dsimp only
          rw [hc, if_neg w1]
        have G : ∀ a, 4 ≤ a ∧ a ≤ 7 → (addW Q.1 (woG B n Q.1 i)).2.1 a c = woG B n Q.1 i (a - 4) := fun a w => by
          unfold addW
          dsimp only
          rw [hc, if_pos ⟨w, rfl⟩]
        obtain ⟨h1, h2, h3, h4, h5, hr, h7, h8⟩ := p1
        refine ⟨⟨h1, ⟨?_, ?_, ?_⟩, ⟨?_, ?_, ?_⟩, fun x hx => ?_, fun x hx => ?_, fun x hx => ?_, ?_, fun x hx => ?_⟩, fun x hx q hq => ?_, ?_, ?_, ?_, ?_⟩
        · rw [al _ _ _ (by omega) (by omega), T1 0 (by decide)]; exact h2.1
        · rw [x7, T0]
        · rw [al _ _ _ (by omega) (by omega), T1 2 (by decide)]; exact h2.2.2
        · rw [T1 0 (by decide)]; exact h3.1
        · rw [T0]; omega
        · rw [T1 2 (by decide)]; exact h3.2.2
        · rw [T1 0 (by decide)] at hx
          obtain ⟨u1, u2, u3, u4⟩ := h4 x hx
          rw [al _ _ _ (by omega) (by omega), al _ _ _ (by omega) (by omega), al _ _ _ (by omega) (by omega), F 0 x (by omega), F 1 x (by omega), F 2 x (by omega)]
          refine ⟨u1, u2, u3, fun q hq => ?_⟩
          rw [al _ _ _ (by omega) (by omega), F 3 _ (by omega)]; exact u4 q hq
        · rw [T0] at hx
          by_cases e : x = c
          · subst e
            rw [G 4 (by omega), G 5 (by omega), G 6 (by omega), G 7 (by omega), k7 _ _ _ (by omega), z0, k7 _ _ _ (by omega), z1, k7 _ _ _ (by omega), z2, k7 _ _ _ (by omega), x5]
            exact ⟨v0e, v1e, v2e, v3e⟩
          · rw [al _ _ _ (by omega) (by omega), al _ _ _ (by omega) (by omega), al _ _ _ (by omega) (by omega), al _ _ _ (by omega) (by omega), F 4 x (by omega), F 5 x (by omega), F 6 x (by omega), F 7 x (by omega)]
            exact h5 x (by omega)
        · rw [T1 2 (by decide)] at hx
          rw [al _ _ _ (by omega) (by omega), al _ _ _ (by omega) (by omega), al _ _ _ (by omega) (by omega), F 8 x (by omega), F 9 x (by omega), F 10 x (by omega)]
          exact hr x hx
        · rw [al _ _ _ (by omega) (by omega), al _ _ _ (by omega) (by omega), al _ _ _ (by omega) (by omega), F 11 0 (by omega), F 12 0 (by omega), F 13 0 (by omega)]
          exact h7
        · obtain ⟨u1, u2, u3⟩ := h8 x hx
          rw [al _ _ _ (by omega) (by omega)]
          exact ⟨u1, u2, fun q hq => by rw [al _ _ _ (by omega) (by omega)]; exact u3 q hq⟩
        · rw [T1 0 (by decide)] at hx
          rw [al _ _ _ (by omega) (by omega), p2 x hx q hq]
          unfold gapv
          refine apn_congr (fun k hk => ?_)
          rw [F 3 _ (by omega)]
        · rw [al _ _ _ (by omega) (by omega)]; exact p3
        · rw [al _ _ _ (by omega) (by omega)]; exact p4
        · rw [al _ _ _ (by omega) (by omega)]; exact p5
        · rw [al _ _ _ (by omega) (by omega)]; exact p6
    · refine ⟨fun y => absurd y t0, fun _ => ?_⟩
      dsimp only [x_int, x_lng, x_ild, x_lld, x_ald, x_ist, x_ast, x_lst, x_inc, x_ii, x_id, x_i, x_ll, x_ld, x_l, x_cmp, x_i2l, x_l2i, x_if, x_ic, x_dup, x_pop, x_dup2, x_gI, x_gL, x_gR, x_g1, x_g0, x_gP, x_pI, x_pZ, x_pL, x_pP, x_al, x_as, x_all, x_asl, x_alr, x_len, x_cpy, x_m2, x_m1, x_m2l, x_m1l, x_call, x_cv, x_ri, x_rz, x_rl, x_rv, zg, zset, zbef, zlong, zcat, cond_true, cond_false, List.take, List.drop, rv1, rv2, rv3, rv4, rv5, rv6, rv7, sm0, sm1, bl0, bl1, bl2, bl3, bl4, bl5, bl6, bl7, bl8, List.nil_append, List.cons_append, List.length_cons, List.length_nil, Nat.reduceBEq, Nat.reduceAdd, Nat.reduceSub, ta, tb, tn0, tn1, tn2, tn3, tn4, tn5, tn6, tn7, tn8, tn9, tn10, tn11, tn12, bX5_readWood_98]
      refine hK J5 fD5 (a5 _ _ _ (by omega) (by omega)) m5 s5 (fun j ej => ?_)
      rw [ex] at ej; cases ej
  · have z : ¬ nI (Q.1.1 1) < nI 4 := z
    rw [n_lt (by omega) (by omega)] at z
    dsimp only at hK
    rw [if_neg z] at hK
    exact hK I1 f1.D (f1 _ _ _ (by omega)) (hm.r f1) c1 (fun j ej => by cases ej)
theorem p_readRap {K : zQ} {I : zI} {L : zJ} {P : zP} {B : Nat → Nat} {n m d i : Nat} {Q : aQ} (hx : rdX B n m d P) (hm : TKm B n m I) (hQ : CQ I d Q) (h : stC B n m (.inl i) I) (hk : kd B n i = 2) (hK : ∀ (I' : zI), frD d I I' → I' 9 d 12 = I 9 d 12 → TKm B n m I' → stC B n m (bodA B n Q i).1 I' → (∀ j, (bodA B n Q i).1 = .inl j → CQ I' d (bodA B n Q i).2) → K [] (I', L, P)) : mX5_readRap K [rdR] (I, L, P) := by
  obtain ⟨hE, n7, hP, d2⟩ := hx
  have hT := hQ.1
  have r10 := hT.r10
  have bd : bodA B n Q i = (if Q.1.1 2 < 10 then nuA B n 0 99 (tnA B n (Q.1.2.1 4) (Q.1.1 1) (tnA B n (Q.1.2.1 0) (Q.1.1 0) (.inl (i + 1)))) else .inr (2, i), (addR Q.1 (raG B n Q.1 i), Q.2)) := (if_neg (by omega)).trans ((if_neg (by omega)).trans (if_pos hk))
  rw [bd] at hK
  show bX5_readRap_0 K [some (.inr (.inr (5,0))), none] [] (I, L, P)
  unfold bX5_readRap_0
  dsimp only [x_int, x_lng, x_ild, x_lld, x_ald, x_ist, x_ast, x_lst, x_inc, x_ii, x_id, x_i, x_ll, x_ld, x_l, x_cmp, x_i2l, x_l2i, x_if, x_ic, x_dup, x_pop, x_dup2, x_gI, x_gL, x_gR, x_g1, x_g0, x_gP, x_pI, x_pZ, x_pL, x_pP, x_al, x_as, x_all, x_asl, x_alr, x_len, x_cpy, x_m2, x_m1, x_m2l, x_m1l, x_call, x_cv, x_ri, x_rz, x_rl, x_rv, zg, zset, zbef, zlong, zcat, cond_true, cond_false, List.take, List.drop, rv1, rv2, rv3, rv4, rv5, rv6, rv7, sm0, sm1, bl0, bl1, bl2, bl3, bl4, bl5, bl6, bl7, bl8, List.nil_append, List.cons_append, List.length_cons, List.length_nil, Nat.reduceBEq, Nat.reduceAdd, Nat.reduceSub, ta, tb, tn0, tn1, tn2, tn3, tn4, tn5, tn6, tn7, tn8, tn9, tn10, tn11, tn12]
  rw [hP, hT.2.1.2.2]
  refine ⟨d2, fun z => ?_, fun z => p_fail (e := 2) (by omega) h (fun I1 f1 c1 => ?_)⟩
  · have z : nI (Q.1.1 2) < nI 10 := z
    rw [n_lt (by omega) (by omega)] at z
    dsimp only at hK
    rw [if_pos z] at hK
    refine p_tak (k := 2) hE n7 (by decide) hm h (fun I1 f1 c1 => ?_)
    have tk : tkA B n 2 (.inl i) = .inl (i + 1) := if_pos hk
    rw [tk] at c1
    have hQ1 := hQ.rd f1
    dsimp only [x_int, x_lng, x_ild, x_lld, x_ald, x_ist, x_ast, x_lst, x_inc, x_ii, x_id, x_i, x_ll, x_ld, x_l, x_cmp, x_i2l, x_l2i, x_if, x_ic, x_dup, x_pop, x_dup2, x_gI, x_gL, x_gR, x_g1, x_g0, x_gP, x_pI, x_pZ, x_pL, x_pP, x_al, x_as, x_all, x_asl, x_alr, x_len, x_cpy, x_m2, x_m1, x_m2l, x_m1l, x_call, x_cv, x_ri, x_rz, x_rl, x_rv, zg, zset, zbef, zlong, zcat, cond_true, cond_false, List.take, List.drop, rv1, rv2, rv3, rv4, rv5, rv6, rv7, sm0, sm1, bl0, bl1, bl2, bl3, bl4, bl5, bl6, bl7, bl8, List.nil_append, List.cons_append, List.length_cons, List.length_nil, Nat.reduceBEq, Nat.reduceAdd, Nat.reduceSub, ta, tb, tn0, tn1, tn2, tn3, tn4, tn5, tn6, tn7, tn8, tn9, tn10, tn11, tn12, zl_45]
    rw [hP, hQ1.1.2.1.2.2]
    generalize hc : Q.1.1 2 = c at *
    rw [n_cl (n := c) (by omega)]
    refine ⟨d2, d2, n_zin (by omega) (by decide), ?_⟩
    refine p_takeTold (hd := true) hE n7 hP hQ1.1 (hm.r f1) c1 (fun I2 v0 f2 c2 e0 => ?_)
    rw [if_pos rfl, if_pos rfl] at c2 e0
    dsimp only [x_int, x_lng, x_ild, x_lld, x_ald, x_ist, x_ast, x_lst, x_inc, x_ii, x_id, x_i, x_ll, x_ld, x_l, x_cmp, x_i2l, x_l2i, x_if, x_ic, x_dup, x_pop, x_dup2, x_gI, x_gL, x_gR, x_g1, x_g0, x_gP, x_pI, x_pZ, x_pL, x_pP, x_al, x_as, x_all, x_asl, x_alr, x_len, x_cpy, x_m2, x_m1, x_m2l, x_m1l, x_call, x_cv, x_ri, x_rz, x_rl, x_rv, zg, zset, zbef, zlong, zcat, cond_true, cond_false, List.take, List.drop, rv1, rv2, rv3, rv4, rv5, rv6, rv7, sm0, sm1, bl0, bl1, bl2, bl3, bl4, bl5, bl6, bl7, bl8, List.nil_append, List.cons_append, List.length_cons, List.length_nil, Nat.reduceBEq, Nat.reduceAdd, Nat.reduceSub, ta, tb, tn0, tn1, tn2, tn3, tn4, tn5, tn6, tn7, tn8, tn9, tn10, tn11, tn12]
    obtain ⟨J2, g2, x2, k2⟩ := zsI_ex I2 L P 4 (10 * d + c) 0 v0
    rw [g2]
    have s2 : stC B n m _ J2 := c2.q (fun q => k2 _ _ _ (by omega)) (k2 _ _ _ (by omega)) (k2 _ _ _ (by omega))
    have m2 : TKm B n m J2 := ((hm.r f1).r f2).q (fun a q w => k2 _ _ _ (by omega))
    have a2 : ∀ a b q, ¬ (a = 4 ∧ b = 10 * d + c) → ¬ (b = 0 ∧ (a = 5 ∨ a = 7)) → J2 a b q = I a b q := fun a b q w1 w2 => by
      rw [k2 a b q (by omega), f2 a b q (by omega), f1 a b q (by omega)]
    have hQ2 : CQ J2 d Q := CQ_set (x := 0) hQ (fun a b q w1 w2 => a2 a b q (by omega) w2)
    clear f1 f2 c2 c1 g2 k2 hQ1
    refine p_takeTold (hd := false) hE n7 hP hQ2.1 m2 s2 (fun I3 v1 f3 c3 e1 => ?_)
    rw [if_neg (by decide), if_neg (by decide)] at c3 e1
    dsimp only [x_int, x_lng, x_ild, x_lld, x_ald, x_ist, x_ast, x_lst, x_inc, x_ii, x_id, x_i, x_ll, x_ld, x_l, x_cmp, x_i2l, x_l2i, x_if, x_ic, x_dup, x_pop, x_dup2, x_gI, x_gL, x_gR, x_g1, x_g0, x_gP, x_pI, x_pZ, x_pL, x_pP, x_al, x_as, x_all, x_asl, x_alr, x_len, x_cpy, x_m2, x_m1, x_m2l, x_m1l, x_call, x_cv, x_ri, x_rz, x_rl, x_rv, zg, zset, zbef, zlong, zcat, cond_true, cond_false, List.take, List.drop, rv1, rv2, rv3, rv4, rv5, rv6, rv7, sm0, sm1, bl0, bl1, bl2, bl3, bl4, bl5, bl6, bl7, bl8, List.nil_append, List.cons_append, List.length_cons, List.length_nil, Nat.reduceBEq, Nat.reduceAdd, Nat.reduceSub, ta, tb, tn0, tn1, tn2, tn3, tn4, tn5, tn6, tn7, tn8, tn9, tn10, tn11, tn12]
    obtain ⟨J3, g3, x3, k3⟩ := zsI_ex I3 L P 4 (10 * d + c) 1 v1
    rw [g3]
    have s3 : stC B n m _ J3 := c3.q (fun q => k3 _ _ _ (by omega)) (k3 _ _ _ (by omega)) (k3 _ _ _ (by omega))
    have m3 : TKm B n m J3 := (m2.r f3).q (fun a q w => k3 _ _ _ (by omega))
    have a3 : ∀ a b q, ¬ (a = 4 ∧ b = 10 * d + c) → ¬ (b = 0 ∧ (a = 5 ∨ a = 7)) → J3 a b q = I a b q := fun a b q w1 w2 => by
      rw [k3 a b q (by omega), f3 a b q (by omega)]; exact a2 a b q w1 w2
    have y30 : J3 4 (10 * d + c) 0 = v0 := by rw [k3 _ _ _ (by omega), f3 _ _ _ (by omega)]; exact x2
    clear f3 c3 g3 k3 s2 m2 a2 x2
    refine p_takeNumber (lo := 0) (hi := 99) hE n7 m3 s3 (fun I4 v2 f4 c4 e2 => ?_)
    dsimp only [x_int, x_lng, x_ild, x_lld, x_ald, x_ist, x_ast, x_lst, x_inc, x_ii, x_id, x_i, x_ll, x_ld, x_l, x_cmp, x_i2l, x_l2i, x_if, x_ic, x_dup, x_pop, x_dup2, x_gI, x_gL, x_gR, x_g1, x_g0, x_gP, x_pI, x_pZ, x_pL, x_pP, x_al, x_as, x_all, x_asl, x_alr, x_len, x_cpy, x_m2, x_m1, x_m2l, x_m1l, x_call, x_cv, x_ri, x_rz, x_rl, x_rv, zg, zset, zbef, zlong, zcat, cond_true, cond_false, List.take, List.drop, rv1, rv2, rv3, rv4, rv5, rv6, rv7, sm0, sm1, bl0, bl1, bl2, bl3, bl4, bl5, bl6, bl7, bl8, List.nil_append, List.cons_append, List.length_cons, List.length_nil, Nat.reduceBEq, Nat.reduceAdd, Nat.reduceSub, ta, tb, tn0, tn1, tn2, tn3, tn4, tn5, tn6, tn7, tn8, tn9, tn10, tn11, tn12]
    obtain ⟨J5, g5, x5, k5⟩ := zsI_ex I4 L P 4 (10 * d + c) 2 v2
    rw [g5]
    have s5 : stC B n m _ J5 := c4.q (fun q => k5 _ _ _ (by omega)) (k5 _ _ _ (by omega)) (k5 _ _ _ (by omega))
    have m5 : TKm B n m J5 := (m3.r f4).q (fun a q w => k5 _ _ _ (by omega))
    have a5 : ∀ a b q, ¬ (a = 4 ∧ b = 10 * d + c) → ¬ (b = 0 ∧ (a = 5 ∨ a = 7)) → J5 a b q = I a b q := fun a b q w1 w2 => by
      rw [k5 a b q (by omega), f4 a b q (by omega)]; exact a3 a b q w1 w2
    have z0 : J5 4 (10 * d + c) 0 = v0 := by rw [k5 _ _ _ (by omega), f4 _ _ _ (by omega)]; exact y30
    have z1 : J5 4 (10 * d + c) 1 = v1 := by rw [k5 _ _ _ (by omega), f4 _ _ _ (by omega)]; exact x3
    clear f4 c4 g5 k5 s3 m3 a3 x3 y30
    have fD5 : frD d I J5 := fun a b q w => a5 a b q (fun u => w (by unfold dK; omega)) (fun u => w (by unfold dK; omega))
    dsimp only [x_int, x_lng, x_ild, x_lld, x_ald, x_ist, x_ast, x_lst, x_inc, x_ii, x_id, x_i, x_ll, x_ld, x_l, x_cmp, x_i2l, x_l2i, x_if, x_ic, x_dup, x_pop, x_dup2, x_gI, x_gL, x_gR, x_g1, x_g0, x_gP, x_pI, x_pZ, x_pL, x_pP, x_al, x_as, x_all, x_asl, x_alr, x_len, x_cpy, x_m2, x_m1, x_m2l, x_m1l, x_call, x_cv, x_ri, x_rz, x_rl, x_rv, zg, zset, zbef, zlong, zcat, cond_true, cond_false, List.take, List.drop, rv1, rv2, rv3, rv4, rv5, rv6, rv7, sm0, sm1, bl0, bl1, bl2, bl3, bl4, bl5, bl6, bl7, bl8, List.nil_append, List.cons_append, List.length_cons, List.length_nil, Nat.reduceBEq, Nat.reduceAdd, Nat.reduceSub, ta, tb, tn0, tn1, tn2, tn3, tn4, tn5, tn6, tn7, tn8, tn9, tn10, tn11, tn12]
    rcases s5.ft with ⟨t0, j, ej⟩ | ⟨t0, x, ex⟩
    · refine ⟨fun _ => ?_, fun y => absurd t0 y⟩
      rw [hP]
      obtain ⟨i4, q4, q5, -⟩ := nuA_inl ej
      obtain ⟨i3, b3, q7, q8, -⟩ := tnA_inl q4
      obtain ⟨i2, b2, q10, q11, -⟩ := tnA_inl q7
      cases q10
      have v0e : v0 = wbR (fnd (Q.1.2.1 0) (vl B n (i + 1)) (Q.1.1 0)) := e0 _ rfl
      have v1e : v1 = wbR (fnd (Q.1.2.1 4) (vl B n (i + 2)) (Q.1.1 1)) := by rw [e1 _ q7, q11]
      have v2e : v2 = vl B n (i + 3) := by rw [e2 _ q4, q8, q11]
      have c9 : J5 9 d 6 = nI c := by
        rw [a5 9 d 6 (by omega) (by omega)]
        have := hT.2.1.2.2
        rw [hc] at this
        exact this
      refine ⟨d2, ?_⟩
      rw [c9, n_succ]
      obtain ⟨J7, g7, x7, k7⟩ := zsI_ex J5 L P 9 d 6 (nI (c + 1))
      rw [g7]
      have al : ∀ a b q, ¬ ((a = 4 ∧ b = 10 * d + c) ∨ (a = 9 ∧ b = d ∧ q = 6)) → ¬ (b = 0 ∧ (a = 5 ∨ a = 7)) → J7 a b q = I a b q := fun a b q w1 w2 => by
        rw [k7 a b q (by omega), a5 a b q (by omega) w2]
      dsimp only [bX5_readRap_88, x_int, x_lng, x_ild, x_lld, x_ald, x_ist, x_ast, x_lst, x_inc, x_ii, x_id, x_i, x_ll, x_ld, x_l, x_cmp, x_i2l, x_l2i, x_if, x_ic, x_dup, x_pop, x_dup2, x_gI, x_gL, x_gR, x_g1, x_g0, x_gP, x_pI, x_pZ, x_pL, x_pP, x_al, x_as, x_all, x_asl, x_alr, x_len, x_cpy, x_m2, x_m1, x_m2l, x_m1l, x_call, x_cv, x_ri, x_rz, x_rl, x_rv, zg, zset, zbef, zlong, zcat, cond_true, cond_false, List.take, List.drop, rv1, rv2, rv3, rv4, rv5, rv6, rv7, sm0, sm1, bl0, bl1, bl2, bl3, bl4, bl5, bl6, bl7, bl8, List.nil_append, List.cons_append, List.length_cons, List.length_nil, Nat.reduceBEq, Nat.reduceAdd, Nat.reduceSub, ta, tb, tn0, tn1, tn2, tn3, tn4, tn5, tn6, tn7, tn8, tn9, tn10, tn11, tn12]
      refine hK J7 (fun a b q w => ?_) (al _ _ _ (by omega) (by omega)) (m5.q (fun a q w => k7 _ _ _ (by omega))) (s5.q (fun q => k7 _ _ _ (by omega)) (k7 _ _ _ (by omega)) (k7 _ _ _ (by omega))) (fun _ _ => ?_)
      · rw [k7 a b q (fun u => w (by unfold dK; omega))]; exact fD5 a b q w
      · obtain ⟨p1, p2, p3, p4, p5, p6⟩ := hQ
        have T0 : (addR Q.1 (raG B n Q.1 i)).1 2 = c + 1 := by rw [← hc]; rfl
        have T1 : ∀ q, ¬ q = 2 → (addR Q.1 (raG B n Q.1 i)).1 q = Q.1.1 q := fun q w => if_neg w
        have F : ∀ a x, ¬ ((8 ≤ a ∧ a ≤ 10) ∧ x = c) → (addR Q.1 (raG B n Q.1 i)).2.1 a x = Q.1.2.1 a x := fun a x w1 => by
          unfold addR
          dsimp only
          rw [hc, if_neg w1]
        have G : ∀ a, 8 ≤ a ∧ a ≤ 10 → (addR Q.1 (raG B n Q.1 i)).2.1 a c = raG B n Q.1 i (a - 8) := fun a w => by
          unfold addR
          dsimp only
          rw [hc, if_pos ⟨w, rfl⟩]
        obtain ⟨h1, h2, h3, h4, h5, hr, h7, h8⟩ := p1
        refine ⟨⟨h1, ⟨?_, ?_, ?_⟩, ⟨?_, ?_, ?_⟩, fun x hx => ?_, fun x hx => ?_, fun x hx => ?_, ?_, fun x hx => ?_⟩, fun x hx q hq => ?_, ?_, ?_, ?_, ?_⟩
        · rw [al _ _ _ (by omega) (by omega), T1 0 (by decide)]; exact h2.1
        · rw [al _ _ _ (by omega) (by omega), T1 1 (by decide)]; exact h2.2.1
        · rw [x7, T0]
        · rw [T1 0 (by decide)]; exact h3.1
        · rw [T1 1 (by decide)]; exact h3.2.1
        · rw [T0]; omega
        · rw [T1 0 (by decide)] at hx
          obtain ⟨u1, u2, u3, u4⟩ := h4 x hx
          rw [al _ _ _ (by omega) (by omega), al _ _ _ (by omega) (by omega), al _ _ _ (by omega) (by omega), F 0 x (by omega), F 1 x (by omega), F 2 x (by omega)]
          refine ⟨u1, u2, u3, fun q hq => ?_⟩
          rw [al _ _ _ (by omega) (by omega), F 3 _ (by omega)]; exact u4 q hq
        · rw [T1 1 (by decide)] at hx
          rw [al _ _ _ (by omega) (by omega), al _ _ _ (by omega) (by omega), al _ _ _ (by omega) (by omega), al _ _ _ (by omega) (by omega), F 4 x (by omega), F 5 x (by omega), F 6 x (by omega), F 7 x (by omega)]
          exact h5 x hx
        · rw [T0] at hx
          by_cases e : x = c
          · subst e
            rw [G 8 (by omega), G 9 (by omega), G 10 (by omega), k7 _ _ _ (by omega), z0, k7 _ _ _ (by omega), z1, k7 _ _ _ (by omega), x5]
            exact ⟨v0e, v1e, v2e⟩
          · rw [al _ _ _ (by omega) (by omega), al _ _ _ (by omega) (by omega), al _ _ _ (by omega) (by omega), F 8 x (by omega), F 9 x (by omega), F 10 x (by omega)]
            exact hr x (by omega)
        · rw [al _ _ _ (by omega) (by omega), al _ _ _ (by omega) (by omega), al _ _ _ (by omega) (by omega), F 11 0 (by omega), F 12 0 (by omega), F 13 0 (by omega)]
          exact h7
        · obtain ⟨u1, u2, u3⟩ := h8 x hx
          rw [al _ _ _ (by omega) (by omega)]
          exact ⟨u1, u2, fun q hq => by rw [al _ _ _ (by omega) (by omega)]; exact u3 q hq⟩
        · rw [T1 0 (by decide)] at hx
          rw [al _ _ _ (by omega) (by omega), p2 x hx q hq]
          unfold gapv
          refine apn_congr (fun k hk => ?_)
          rw [F 3 _ (by omega)]
        · rw [al _ _ _ (by omega) (by omega)]; exact p3
        · rw [al _ _ _ (by omega) (by omega)]; exact p4
        · rw [al _ _ _ (by omega) (by omega)]; exact p5
        · rw [al _ _ _ (by omega) (by omega)]; exact p6
    · refine ⟨fun y => absurd y t0, fun _ => ?_⟩
      dsimp only [x_int, x_lng, x_ild, x_lld, x_ald, x_ist, x_ast, x_lst, x_inc, x_ii, x_id, x_i, x_ll, x_ld, x_l, x_cmp, x_i2l, x_l2i, x_if, x_ic, x_dup, x_pop, x_dup2, x_gI, x_gL, x_gR, x_g1, x_g0, x_gP, x_pI, x_pZ, x_pL, x_pP, x_al, x_as, x_all, x_asl, x_alr, x_len, x_cpy, x_m2, x_m1, x_m2l, x_m1l, x_call, x_cv, x_ri, x_rz, x_rl, x_rv, zg, zset, zbef, zlong, zcat, cond_true, cond_false, List.take, List.drop, rv1, rv2, rv3, rv4, rv5, rv6, rv7, sm0, sm1, bl0, bl1, bl2, bl3, bl4, bl5, bl6, bl7, bl8, List.nil_append, List.cons_append, List.length_cons, List.length_nil, Nat.reduceBEq, Nat.reduceAdd, Nat.reduceSub, ta, tb, tn0, tn1, tn2, tn3, tn4, tn5, tn6, tn7, tn8, tn9, tn10, tn11, tn12, bX5_readRap_88]
      refine hK J5 fD5 (a5 _ _ _ (by omega) (by omega)) m5 s5 (fun j ej => ?_)
      rw [ex] at ej; cases ej
  · have z : ¬ nI (Q.1.1 2) < nI 10 := z
    rw [n_lt (by omega) (by omega)] at z
    dsimp only at hK
    rw [if_neg z] at hK
    exact hK I1 f1.D (f1 _ _ _ (by omega)) (hm.r f1) c1 (fun j ej => by cases ej)
