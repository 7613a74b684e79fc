abbrev rdX (B : Nat → Nat) (n m d : Nat) (P : zP) : Prop := endA B n m ∧ n ≤ 700 ∧ P 5 0 3 = d ∧ d < 2
theorem CQ_set {d x : Nat} {Q : aQ} {I I' : zI} (h : CQ I d Q) (e : ∀ a b c, ¬ (((a = 1 ∨ a = 14 ∨ a = 15) ∧ b = 6 * d + Q.1.1 0) ∨ (a = 10 ∧ b = 4 * d + Q.1.1 1) ∨ (a = 4 ∧ b = 10 * d + Q.1.1 2)) → ¬ (b = 0 ∧ (a = 5 ∨ a = 7)) → I' a b c = I a b c) : CQ I' d Q := by
  obtain ⟨h1, h2, h3, h4, h5, h6⟩ := h
  have q9 : ∀ c, I' 9 d c = I 9 d c := fun c => e 9 d c (by omega) (by omega)
  exact ⟨h1.w q9 (fun x hx => ⟨fun c => e _ _ _ (by omega) (by omega), fun c => e _ _ _ (by omega) (by omega)⟩) (fun x hx c => e _ _ _ (by omega) (by omega)) (fun x hx c => e _ _ _ (by omega) (by omega)) (fun w hw c => ⟨e _ _ _ (by omega) (by omega), e _ _ _ (by omega) (by omega)⟩), fun x hx i hi => by rw [e 15 _ i (by omega) (by omega)]; exact h2 x hx i hi, (q9 _).trans h3, (q9 _).trans h4, (q9 _).trans h5, (q9 _).trans h6⟩
theorem p_readHand {K : zQ} {I : zI} {L : zJ} {P : zP} {B : Nat → Nat} {n m d i : Nat} {Q : aQ} (hx : rdX B n m d P) (hm : TKm B n m I) (hQ : CQ I d Q) (h : stC B n m (.inl i) I) (hk : kd B n i = 0) (hK : ∀ (I' : zI), frD d I I' → I' 9 d 12 = I 9 d 12 → TKm B n m I' → stC B n m (bodA B n Q i).1 I' → (∀ j, (bodA B n Q i).1 = .inl j → CQ I' d (bodA B n Q i).2) → K [] (I', L, P)) : mX5_readHand K [rdR] (I, L, P) := by
  obtain ⟨hE, n7, hP, d2⟩ := hx
  have hT := hQ.1
  have h6 := hT.h6
  have bd : bodA B n Q i = (if Q.1.1 0 < 6 then btA B n 6 (nuA B n 0 99 (nuA B n 0 9 (nnA B n (Q.1.2.1 0) (Q.1.1 0) (.inl (i + 1))))) else .inr (2, i), (addH Q.1 (fun q => vl B n (i + 1 + q)), Q.2)) := if_pos hk
  rw [bd] at hK
  show bX5_readHand_0 K [some (.inr (.inr (5,0))), none, none] [] (I, L, P)
  unfold bX5_readHand_0
  dsimp only [x_int, x_lng, x_ild, x_lld, x_ald, x_ist, x_ast, x_lst, x_inc, x_ii, x_id, x_i, x_ll, x_ld, x_l, x_cmp, x_i2l, x_l2i, x_if, x_ic, x_dup, x_pop, x_dup2, x_gI, x_gL, x_gR, x_g1, x_g0, x_gP, x_pI, x_pZ, x_pL, x_pP, x_al, x_as, x_all, x_asl, x_alr, x_len, x_cpy, x_m2, x_m1, x_m2l, x_m1l, x_call, x_cv, x_ri, x_rz, x_rl, x_rv, zg, zset, zbef, zlong, zcat, cond_true, cond_false, List.take, List.drop, rv1, rv2, rv3, rv4, rv5, rv6, rv7, sm0, sm1, bl0, bl1, bl2, bl3, bl4, bl5, bl6, bl7, bl8, List.nil_append, List.cons_append, List.length_cons, List.length_nil, Nat.reduceBEq, Nat.reduceAdd, Nat.reduceSub, ta, tb, tn0, tn1, tn2, tn3, tn4, tn5, tn6, tn7, tn8, tn9, tn10, tn11, tn12]
  rw [hP, hT.2.1.1]
  refine ⟨d2, fun z => ?_, fun z => p_fail (e := 2) (by omega) h (fun I1 f1 c1 => ?_)⟩
  · have z : nI (Q.1.1 0) < nI 6 := z
    rw [n_lt (by omega) (by omega)] at z
    dsimp only at hK
    rw [if_pos z] at hK
    generalize hc : Q.1.1 0 = c at *
    refine p_tak (k := 0) hE n7 (by decide) hm h (fun I1 f1 c1 => ?_)
    have tk : tkA B n 0 (.inl i) = .inl (i + 1) := if_pos hk
    rw [tk] at c1
    have hQ1 := hQ.rd f1
    dsimp only [x_int, x_lng, x_ild, x_lld, x_ald, x_ist, x_ast, x_lst, x_inc, x_ii, x_id, x_i, x_ll, x_ld, x_l, x_cmp, x_i2l, x_l2i, x_if, x_ic, x_dup, x_pop, x_dup2, x_gI, x_gL, x_gR, x_g1, x_g0, x_gP, x_pI, x_pZ, x_pL, x_pP, x_al, x_as, x_all, x_asl, x_alr, x_len, x_cpy, x_m2, x_m1, x_m2l, x_m1l, x_call, x_cv, x_ri, x_rz, x_rl, x_rv, zg, zset, zbef, zlong, zcat, cond_true, cond_false, List.take, List.drop, rv1, rv2, rv3, rv4, rv5, rv6, rv7, sm0, sm1, bl0, bl1, bl2, bl3, bl4, bl5, bl6, bl7, bl8, List.nil_append, List.cons_append, List.length_cons, List.length_nil, Nat.reduceBEq, Nat.reduceAdd, Nat.reduceSub, ta, tb, tn0, tn1, tn2, tn3, tn4, tn5, tn6, tn7, tn8, tn9, tn10, tn11, tn12, zl_43]
    rw [hP, hQ1.1.2.1.1, hc, n_cl (n := c) (by omega)]
    refine ⟨d2, d2, n_zin (by omega) (by decide), ?_⟩
    -- the name
    refine p_takeNew (hd := true) hE n7 hP hQ1.1 (hm.r f1) c1 (fun I2 v0 f2 c2 e0 => ?_)
    rw [if_pos rfl, if_pos rfl, hc] at c2
    dsimp only [x_int, x_lng, x_ild, x_lld, x_ald, x_ist, x_ast, x_lst, x_inc, x_ii, x_id, x_i, x_ll, x_ld, x_l, x_cmp, x_i2l, x_l2i, x_if, x_ic, x_dup, x_pop, x_dup2, x_gI, x_gL, x_gR, x_g1, x_g0, x_gP, x_pI, x_pZ, x_pL, x_pP, x_al, x_as, x_all, x_asl, x_alr, x_len, x_cpy, x_m2, x_m1, x_m2l, x_m1l, x_call, x_cv, x_ri, x_rz, x_rl, x_rv, zg, zset, zbef, zlong, zcat, cond_true, cond_false, List.take, List.drop, rv1, rv2, rv3, rv4, rv5, rv6, rv7, sm0, sm1, bl0, bl1, bl2, bl3, bl4, bl5, bl6, bl7, bl8, List.nil_append, List.cons_append, List.length_cons, List.length_nil, Nat.reduceBEq, Nat.reduceAdd, Nat.reduceSub, ta, tb, tn0, tn1, tn2, tn3, tn4, tn5, tn6, tn7, tn8, tn9, tn10, tn11, tn12]
    obtain ⟨J2, g2, x2, k2⟩ := zsI_ex I2 L P 1 (6 * d + c) 2 v0
    rw [g2]
    have s2 : stC B n m _ J2 := c2.q (fun q => k2 _ _ _ (by omega)) (k2 _ _ _ (by omega)) (k2 _ _ _ (by omega))
    have m2 : TKm B n m J2 := ((hm.r f1).r f2).q (fun a q w => k2 _ _ _ (by omega))
    refine p_takeNumber (lo := 0) (hi := 9) hE n7 m2 s2 (fun I3 v1 f3 c3 e1 => ?_)
    dsimp only [x_int, x_lng, x_ild, x_lld, x_ald, x_ist, x_ast, x_lst, x_inc, x_ii, x_id, x_i, x_ll, x_ld, x_l, x_cmp, x_i2l, x_l2i, x_if, x_ic, x_dup, x_pop, x_dup2, x_gI, x_gL, x_gR, x_g1, x_g0, x_gP, x_pI, x_pZ, x_pL, x_pP, x_al, x_as, x_all, x_asl, x_alr, x_len, x_cpy, x_m2, x_m1, x_m2l, x_m1l, x_call, x_cv, x_ri, x_rz, x_rl, x_rv, zg, zset, zbef, zlong, zcat, cond_true, cond_false, List.take, List.drop, rv1, rv2, rv3, rv4, rv5, rv6, rv7, sm0, sm1, bl0, bl1, bl2, bl3, bl4, bl5, bl6, bl7, bl8, List.nil_append, List.cons_append, List.length_cons, List.length_nil, Nat.reduceBEq, Nat.reduceAdd, Nat.reduceSub, ta, tb, tn0, tn1, tn2, tn3, tn4, tn5, tn6, tn7, tn8, tn9, tn10, tn11, tn12]
    obtain ⟨J3, g3, x3, k3⟩ := zsI_ex I3 L P 1 (6 * d + c) 3 v1
    rw [g3]
    have s3 : stC B n m _ J3 := c3.q (fun q => k3 _ _ _ (by omega)) (k3 _ _ _ (by omega)) (k3 _ _ _ (by omega))
    have m3 : TKm B n m J3 := (m2.r f3).q (fun a q w => k3 _ _ _ (by omega))
    refine p_takeNumber (lo := 0) (hi := 99) hE n7 m3 s3 (fun I4 v2 f4 c4 e2 => ?_)
    dsimp only [x_int, x_lng, x_ild, x_lld, x_ald, x_ist, x_ast, x_lst, x_inc, x_ii, x_id, x_i, x_ll, x_ld, x_l, x_cmp, x_i2l, x_l2i, x_if, x_ic, x_dup, x_pop, x_dup2, x_gI, x_gL, x_gR, x_g1, x_g0, x_gP, x_pI, x_pZ, x_pL, x_pP, x_al, x_as, x_all, x_asl, x_alr, x_len, x_cpy, x_m2, x_m1, x_m2l, x_m1l, x_call, x_cv, x_ri, x_rz, x_rl, x_rv, zg, zset, zbef, zlong, zcat, cond_true, cond_false, List.take, List.drop, rv1, rv2, rv3, rv4, rv5, rv6, rv7, sm0, sm1, bl0, bl1, bl2, bl3, bl4, bl5, bl6, bl7, bl8, List.nil_append, List.cons_append, List.length_cons, List.length_nil, Nat.reduceBEq, Nat.reduceAdd, Nat.reduceSub, ta, tb, tn0, tn1, tn2, tn3, tn4, tn5, tn6, tn7, tn8, tn9, tn10, tn11, tn12]
    obtain ⟨J4, g4, x4, k4⟩ := zsI_ex I4 L P 1 (6 * d + c) 4 v2
    rw [g4]
    have s4 : stC B n m _ J4 := c4.q (fun q => k4 _ _ _ (by omega)) (k4 _ _ _ (by omega)) (k4 _ _ _ (by omega))
    have m4 : TKm B n m J4 := (m3.r f4).q (fun a q w => k4 _ _ _ (by omega))
    have y2 : J4 1 (6 * d + c) 2 = v0 := by rw [k4 _ _ _ (by omega), f4 _ _ _ (by omega), k3 _ _ _ (by omega), f3 _ _ _ (by omega)]; exact x2
    have y3 : J4 1 (6 * d + c) 3 = v1 := by rw [k4 _ _ _ (by omega), f4 _ _ _ (by omega)]; exact x3
    have fr4 : ∀ a b q, ¬ (a = 1 ∧ b = 6 * d + c) → ¬ (b = 0 ∧ (a = 5 ∨ a = 7)) → J4 a b q = I a b q := fun a b q w1 w2 => by
      rw [k4 a b q (by omega), f4 a b q (by omega), k3 a b q (by omega), f3 a b q (by omega), k2 a b q (by omega), f2 a b q (by omega), f1 a b q (by omega)]
    generalize hst : nuA B n 0 99 (nuA B n 0 9 (nnA B n (Q.1.2.1 0) c (.inl (i + 1)))) = st at *
    refine zinv 6 (fun k Z M => ∃ I' : zI, Z = [some rdR, some (.inr (.inr (1, 6 * d + c))), some (.inl (nI k))] ∧ M = (I', L, P) ∧ (∀ a b q, ¬ ((a = 1 ∨ a = 14) ∧ b = 6 * d + c) → ¬ (b = 0 ∧ (a = 5 ∨ a = 7)) → I' a b q = I a b q) ∧ (∀ q, I' 1 (6 * d + c) q = J4 1 (6 * d + c) q) ∧ TKm B n m I' ∧ stC B n m (btA B n k st) I' ∧ ∀ q, q < k → ∀ j, btA B n k st = .inl j → I' 14 (6 * d + c) q = vl B n (j - k + q)) ?_ ?_ ⟨J4, rfl, rfl, fun a b q w1 w2 => fr4 a b q (by omega) w2, fun _ => rfl, m4, s4, fun q hq => by omega⟩
    · rintro k Z M hk6 ⟨I5, rfl, rfl, r1, r2, r3, r4, r5⟩ self hself
      dsimp only [x_int, x_lng, x_ild, x_lld, x_ald, x_ist, x_ast, x_lst, x_inc, x_ii, x_id, x_i, x_ll, x_ld, x_l, x_cmp, x_i2l, x_l2i, x_if, x_ic, x_dup, x_pop, x_dup2, x_gI, x_gL, x_gR, x_g1, x_g0, x_gP, x_pI, x_pZ, x_pL, x_pP, x_al, x_as, x_all, x_asl, x_alr, x_len, x_cpy, x_m2, x_m1, x_m2l, x_m1l, x_call, x_cv, x_ri, x_rz, x_rl, x_rv, zg, zset, zbef, zlong, zcat, cond_true, cond_false, List.take, List.drop, rv1, rv2, rv3, rv4, rv5, rv6, rv7, sm0, sm1, bl0, bl1, bl2, bl3, bl4, bl5, bl6, bl7, bl8, List.nil_append, List.cons_append, List.length_cons, List.length_nil, Nat.reduceBEq, Nat.reduceAdd, Nat.reduceSub, ta, tb, tn0, tn1, tn2, tn3, tn4, tn5, tn6, tn7, tn8, tn9, tn10, tn11, tn12]
      refine ⟨fun q => absurd q (lt_go (n := 6) rfl (by omega) hk6), fun _ => p_takeNumber (lo := 1) (hi := 4) hE n7 r3 r4 (fun I6 v f6 c6 e6 => ?_)⟩
      dsimp only [x_int, x_lng, x_ild, x_lld, x_ald, x_ist, x_ast, x_lst, x_inc, x_ii, x_id, x_i, x_ll, x_ld, x_l, x_cmp, x_i2l, x_l2i, x_if, x_ic, x_dup, x_pop, x_dup2, x_gI, x_gL, x_gR, x_g1, x_g0, x_gP, x_pI, x_pZ, x_pL, x_pP, x_al, x_as, x_all, x_asl, x_alr, x_len, x_cpy, x_m2, x_m1, x_m2l, x_m1l, x_call, x_cv, x_ri, x_rz, x_rl, x_rv, zg, zset, zbef, zlong, zcat, cond_true, cond_false, List.take, List.drop, rv1, rv2, rv3, rv4, rv5, rv6, rv7, sm0, sm1, bl0, bl1, bl2, bl3, bl4, bl5, bl6, bl7, bl8, List.nil_append, List.cons_append, List.length_cons, List.length_nil, Nat.reduceBEq, Nat.reduceAdd, Nat.reduceSub, ta, tb, tn0, tn1, tn2, tn3, tn4, tn5, tn6, tn7, tn8, tn9, tn10, tn11, tn12, zk_14, zl_14]
      rw [n_cl (n := k) (by omega), n_succ k]
      obtain ⟨J6, g6, x6, k6⟩ := zsI_ex I6 L P 14 (6 * d + c) k v
      rw [g6]
      refine ⟨n_zin hk6 (by decide), hself _ _ ⟨J6, rfl, rfl, fun a b q w1 w2 => ?_, fun q => ?_, (r3.r f6).q (fun a q w => k6 _ _ _ (by omega)), c6.q (fun q => k6 _ _ _ (by omega)) (k6 _ _ _ (by omega)) (k6 _ _ _ (by omega)), fun q hq j hj => ?_⟩⟩
      · rw [k6 a b q (by omega), f6 a b q (by omega)]; exact r1 a b q w1 w2
      · rw [k6 _ _ _ (by omega), f6 _ _ _ (by omega)]; exact r2 q
      · rw [btA_s] at hj
        obtain ⟨j0, z1, z2, -⟩ := nuA_inl hj
        by_cases e : q = k
        · subst e
          rw [x6, e6 j0 z1]
          obtain ⟨i0, -, w2, -⟩ := btA_inl z1
          rw [show j - (q + 1) + q = j0 by omega]
        · rw [k6 _ _ _ (by omega), f6 _ _ _ (by omega), r5 q (by omega) j0 z1]
          rw [show j - (k + 1) + q = j0 - k + q by omega]
    · rintro Z M ⟨I5, rfl, rfl, r1, r2, r3, r4, r5⟩ self
      dsimp only [x_int, x_lng, x_ild, x_lld, x_ald, x_ist, x_ast, x_lst, x_inc, x_ii, x_id, x_i, x_ll, x_ld, x_l, x_cmp, x_i2l, x_l2i, x_if, x_ic, x_dup, x_pop, x_dup2, x_gI, x_gL, x_gR, x_g1, x_g0, x_gP, x_pI, x_pZ, x_pL, x_pP, x_al, x_as, x_all, x_asl, x_alr, x_len, x_cpy, x_m2, x_m1, x_m2l, x_m1l, x_call, x_cv, x_ri, x_rz, x_rl, x_rv, zg, zset, zbef, zlong, zcat, cond_true, cond_false, List.take, List.drop, rv1, rv2, rv3, rv4, rv5, rv6, rv7, sm0, sm1, bl0, bl1, bl2, bl3, bl4, bl5, bl6, bl7, bl8, List.nil_append, List.cons_append, List.length_cons, List.length_nil, Nat.reduceBEq, Nat.reduceAdd, Nat.reduceSub, ta, tb, tn0, tn1, tn2, tn3, tn4, tn5, tn6, tn7, tn8, tn9, tn10, tn11, tn12]
      refine ⟨fun _ => ?_, fun q => absurd q (lt_out (n := 6) rfl)⟩
      have fD5 : frD d I I5 := fun a b q w => r1 a b q (fun u => w (by unfold dK; omega)) (fun u => w (by unfold dK; omega))
      rcases r4.ft with ⟨z0, j, ej⟩ | ⟨z0, x, ex⟩
      · refine ⟨fun _ => ?_, fun y => absurd z0 y⟩
        obtain ⟨i6, q1, q2, q3⟩ := btA_inl ej
        rw [← hst] at q1
        obtain ⟨i5, q4, q5, q6, -⟩ := nuA_inl q1
        obtain ⟨i4, q7, q8, q9, -⟩ := nuA_inl q4
        obtain ⟨i3, q10, q11⟩ := nnA_inl q7
        cases q10
        have be : ∀ q, q < 6 → I5 14 (6 * d + c) q = vl B n (i + 1 + (3 + q)) := fun q hq => by
          rw [r5 q hq j ej, show j - 6 + q = i + 1 + (3 + q) by omega]
        have v0e : v0 = vl B n (i + 1) := e0 _ rfl
        have v1e : v1 = vl B n (i + 1 + 1) := by rw [e1 _ q7, q11]
        have v2e : v2 = vl B n (i + 1 + 2) := by rw [e2 _ q4, q8, q11]
        have gb : ∀ q, q < 6 → I5 14 (6 * d + c) q = (addH Q.1 (fun q => vl B n (i + 1 + q))).2.1 3 (6 * c + q) := fun q hq => by
          rw [be q hq]
          unfold addH
          dsimp only
          rw [hc, if_neg (show ¬ (3 ≤ 2 ∧ 6 * c + q = c) by omega), if_pos (show 3 = 3 ∧ 6 * c ≤ 6 * c + q ∧ 6 * c + q < 6 * c + 6 by omega), show 6 * c + q - 6 * c = q by omega]
        refine p_measure (h := c) gb (fun I6 f6 g6 => ?_)
        dsimp only [x_int, x_lng, x_ild, x_lld, x_ald, x_ist, x_ast, x_lst, x_inc, x_ii, x_id, x_i, x_ll, x_ld, x_l, x_cmp, x_i2l, x_l2i, x_if, x_ic, x_dup, x_pop, x_dup2, x_gI, x_gL, x_gR, x_g1, x_g0, x_gP, x_pI, x_pZ, x_pL, x_pP, x_al, x_as, x_all, x_asl, x_alr, x_len, x_cpy, x_m2, x_m1, x_m2l, x_m1l, x_call, x_cv, x_ri, x_rz, x_rl, x_rv, zg, zset, zbef, zlong, zcat, cond_true, cond_false, List.take, List.drop, rv1, rv2, rv3, rv4, rv5, rv6, rv7, sm0, sm1, bl0, bl1, bl2, bl3, bl4, bl5, bl6, bl7, bl8, List.nil_append, List.cons_append, List.length_cons, List.length_nil, Nat.reduceBEq, Nat.reduceAdd, Nat.reduceSub, ta, tb, tn0, tn1, tn2, tn3, tn4, tn5, tn6, tn7, tn8, tn9, tn10, tn11, tn12, bX5_readHand_120]
        rw [hP]
        have c9 : I6 9 d 4 = nI c := by
          rw [f6 9 d 4 (by omega), r1 9 d 4 (by omega) (by omega)]
          have := hT.2.1.1
          rw [hc] at this
          exact this
        refine ⟨d2, ?_⟩
        rw [c9, n_succ]
        obtain ⟨J7, g7, x7, k7⟩ := zsI_ex I6 L P 9 d 4 (nI (c + 1))
        rw [g7]
        have al : ∀ a b q, ¬ (((a = 1 ∨ a = 14 ∨ a = 15) ∧ b = 6 * d + c) ∨ (a = 9 ∧ b = d ∧ q = 4)) → ¬ (b = 0 ∧ (a = 5 ∨ a = 7)) → J7 a b q = I a b q := fun a b q w1 w2 => by
          rw [k7 a b q (by omega), f6 a b q (by omega), r1 a b q (by omega) w2]
        have t7 : TKm B n m J7 := r3.q (fun a q w => by rw [k7 _ _ _ (by omega), f6 _ _ _ (by omega)])
        have st7 : stC B n m (btA B n 6 st) J7 := r4.q (fun q => by rw [k7 _ _ _ (by omega), f6 _ _ _ (by omega)]) (by rw [k7 _ _ _ (by omega), f6 _ _ _ (by omega)]) (by rw [k7 _ _ _ (by omega), f6 _ _ _ (by omega)])
        refine hK J7 (fun a b q w => ?_) (al _ _ _ (by omega) (by omega)) t7 st7 (fun _ _ => ?_)
        · by_cases u : b = 0 ∧ (a = 5 ∨ a = 7)
          · rw [k7 a b q (by omega), f6 a b q (by omega)]; exact fD5 a b q w
          · exact al a b q (fun y => w (by unfold dK; omega)) u
        · obtain ⟨p1, p2, p3, p4, p5, p6⟩ := hQ
          have T0 : (addH Q.1 (fun q => vl B n (i + 1 + q))).1 0 = c + 1 := by rw [← hc]; rfl
          have T1 : ∀ q, ¬ q = 0 → (addH Q.1 (fun q => vl B n (i + 1 + q))).1 q = Q.1.1 q := fun q w => if_neg w
          have F : ∀ a x, ¬ (a ≤ 2 ∧ x = c) → ¬ (a = 3 ∧ 6 * c ≤ x ∧ x < 6 * c + 6) → (addH Q.1 (fun q => vl B n (i + 1 + q))).2.1 a x = Q.1.2.1 a x := fun a x w1 w2 => by
            unfold addH
            dsimp only
            rw [hc, if_neg w1, if_neg w2]
          have G : ∀ a, a ≤ 2 → (addH Q.1 (fun q => vl B n (i + 1 + q))).2.1 a c = vl B n (i + 1 + a) := fun a w => by
            unfold addH
            dsimp only
            rw [hc, if_pos ⟨w, rfl⟩]
          obtain ⟨h1, h2, h3, h4, h5, hr, h7, h8⟩ := p1
          refine ⟨⟨h1, ⟨?_, ?_, ?_⟩, ⟨?_, ?_, ?_⟩, fun x hx => ?_, fun x hx => ?_, fun x hx => ?_, ?_, fun x hx => ?_⟩, fun x hx q hq => ?_, ?_, ?_, ?_, ?_⟩
          · rw [x7, T0]
          · rw [al _ _ _ (by omega) (by omega), T1 1 (by decide)]; exact h2.2.1
          · rw [al _ _ _ (by omega) (by omega), T1 2 (by decide)]; exact h2.2.2
          · rw [T0]; omega
          · rw [T1 1 (by decide)]; exact h3.2.1
          · rw [T1 2 (by decide)]; exact h3.2.2
          · rw [T0] at hx
            by_cases e : x = c
            · subst e
              rw [G 0 (by omega), G 1 (by omega), G 2 (by omega)]
              refine ⟨?_, ?_, ?_, fun q hq => ?_⟩
              · rw [k7 _ _ _ (by omega), f6 _ _ _ (by omega), r2, y2]; exact v0e
              · rw [k7 _ _ _ (by omega), f6 _ _ _ (by omega), r2, y3]; exact v1e
              · rw [k7 _ _ _ (by omega), f6 _ _ _ (by omega), r2, x4]; exact v2e
              · rw [k7 _ _ _ (by omega), f6 _ _ _ (by omega)]; exact gb q hq
            · obtain ⟨u1, u2, u3, u4⟩ := h4 x (by omega)
              rw [al _ _ _ (by omega) (by omega), al _ _ _ (by omega) (by omega), al _ _ _ (by omega) (by omega), F 0 x (by omega) (by omega), F 1 x (by omega) (by omega), F 2 x (by omega) (by omega)]
              refine ⟨u1, u2, u3, fun q hq => ?_⟩
              rw [al _ _ _ (by omega) (by omega), F 3 _ (by omega) (by omega)]; exact u4 q hq
          · rw [T1 1 (by decide)] at hx
            rw [al _ _ _ (by omega) (by omega), al _ _ _ (by omega) (by omega), al _ _ _ (by omega) (by omega), al _ _ _ (by omega) (by omega), F 4 x (by omega) (by omega), F 5 x (by omega) (by omega), F 6 x (by omega) (by omega), F 7 x (by omega) (by omega)]
            exact h5 x hx
          · rw [T1 2 (by decide)] at hx
            rw [al _ _ _ (by omega) (by omega), al _ _ _ (by omega) (by omega), al _ _ _ (by omega) (by omega), F 8 x (by omega) (by omega), F 9 x (by omega) (by omega), F 10 x (by omega) (by omega)]
            exact hr x hx
          · rw [al _ _ _ (by omega) (by omega), al _ _ _ (by omega) (by omega), al _ _ _ (by omega) (by omega), F 11 0 (by omega) (by omega), F 12 0 (by omega) (by omega), F 13 0 (by omega) (by omega)]
            exact h7
          · obtain ⟨u1, u2, u3⟩ := h8 x hx
            rw [al _ _ _ (by omega) (by omega)]
            exact ⟨u1, u2, fun q hq => by rw [al _ _ _ (by omega) (by omega)]; exact u3 q hq⟩
          · rw [T0] at hx
            by_cases e : x = c
            · subst e
              rw [k7 _ _ _ (by omega)]; exact g6 q hq
            · rw [al _ _ _ (by omega) (by omega), p2 x (by omega) q hq]
              unfold gapv
              refine apn_congr (fun k hk => ?_)
              rw [F 3 _ (by omega) (by split <;> omega)]
          · rw [al _ _ _ (by omega) (by omega)]; exact p3
          · rw [al _ _ _ (by omega) (by omega)]; exact p4
          · rw [al _ _ _ (by omega) (by omega)]; exact p5
          · rw [al _ _ _ (by omega) (by omega)]; exact p6
      · refine ⟨fun y => absurd y z0, fun _ => ?_⟩
        dsimp only [x_int, x_lng, x_ild, x_lld, x_ald, x_ist, x_ast, x_lst, x_inc, x_ii, x_id, x_i, x_ll, x_ld, x_l, x_cmp, x_i2l, x_l2i, x_if, x_ic, x_dup, x_pop, x_dup2, x_gI, x_gL, x_gR, x_g1, x_g0, x_gP, x_pI, x_pZ, x_pL, x_pP, x_al, x_as, x_all, x_asl, x_alr, x_len, x_cpy, x_m2, x_m1, x_m2l, x_m1l, x_call, x_cv, x_ri, x_rz, x_rl, x_rv, zg, zset, zbef, zlong, zcat, cond_true, cond_false, List.take, List.drop, rv1, rv2, rv3, rv4, rv5, rv6, rv7, sm0, sm1, bl0, bl1, bl2, bl3, bl4, bl5, bl6, bl7, bl8, List.nil_append, List.cons_append, List.length_cons, List.length_nil, Nat.reduceBEq, Nat.reduceAdd, Nat.reduceSub, ta, tb, tn0, tn1, tn2, tn3, tn4, tn5, tn6, tn7, tn8, tn9, tn10, tn11, tn12, bX5_readHand_120]
        refine hK I5 fD5 (r1 _ _ _ (by omega) (by omega)) r3 r4 (fun j ej => ?_)
        rw [ex] at ej; cases ej
  · have z : ¬ nI (Q.1.1 0) < nI 6 := z
    rw [n_lt (by omega) (by omega)] at z
    dsimp only at hK
    rw [if_neg z] at hK
    exact hK I1 f1.D (f1 _ _ _ (by omega)) (hm.r f1) c1 (fun j ej => by cases ej)
