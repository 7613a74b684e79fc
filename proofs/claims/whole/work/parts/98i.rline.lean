theorem RLq.mono {I : zI} {l : List Int32} {q K K' : Nat} (h : RLq I l q K) (hk : K ≤ K') : RLq I l q K' := by
  unfold RLq at h ⊢
  rcases h with h | ⟨h1, a, h2, h3, h4, h5⟩
  · exact Or.inl h
  · exact Or.inr ⟨h1, a, h2, h3, by omega, h5⟩
theorem RLq.told {I : zI} {l : List Int32} {q K : Nat} (h : RLq I l q K) : (l = [] ∧ I 66 0 (3 + q) = 0) ∨ (¬ l = [] ∧ I 66 0 (3 + q) = 1) := by
  unfold RLq at h
  rcases h with h | ⟨h1, a, h2, h3, h4, h5⟩
  · exact Or.inl h
  · refine Or.inr ⟨fun e => ?_, h1⟩
    subst e
    obtain ⟨q, -, z⟩ := h5
    cases z
theorem RQ.t {I I' : zI} {Q : aQ} (hQ : RQ I Q) (e : ∀ a c, ¬ (a = 12 ∧ 4 ≤ c ∧ c ≤ 11) → I' a 0 c = I a 0 c) : RQ I' Q := by
  obtain ⟨⟨q1, q2, q3⟩, bb, qh, qw, qr, qo, ql, qf⟩ := hQ
  refine ⟨⟨?_, ?_, ?_⟩, bb, fun x hx => ?_, fun x hx => ?_, fun x hx => ?_, ⟨?_, ?_, ?_, ?_⟩, fun q hq => ?_, ?_, ?_⟩
  · rw [e _ _ (by decide)]; exact q1
  · rw [e _ _ (by decide)]; exact q2
  · rw [e _ _ (by decide)]; exact q3
  · obtain ⟨u1, u2, u3, u4⟩ := qh x hx
    rw [e _ _ (by omega), e _ _ (by omega), e _ _ (by omega)]
    refine ⟨u1, u2, u3, fun q hq => ?_⟩
    rw [e _ _ (by omega)]; exact u4 q hq
  · rw [e _ _ (by omega), e _ _ (by omega), e _ _ (by omega), e _ _ (by omega)]; exact qw x hx
  · rw [e _ _ (by omega), e _ _ (by omega), e _ _ (by omega)]; exact qr x hx
  · rw [e _ _ (by omega)]; exact qo.1
  · rw [e _ _ (by omega)]; exact qo.2.1
  · rw [e _ _ (by decide)]; exact qo.2.2.1
  · rw [e _ _ (by decide)]; exact qo.2.2.2
  · exact (ql q hq).f hq (fun a x u => e _ _ (by omega)) (fun a x u v => e _ _ (by omega))
  · rw [e _ _ (by omega)]; exact qf.1
  · rw [e _ _ (by omega)]; exact qf.2
theorem p_lineRead {K : zQ} {I : zI} {L : zJ} {P : zP} {B : Nat → Nat} {n m i : Nat} {Q : aQ} (hm : m ≤ n ∧ kd B n m = 34) (hi : i ≤ m) (hp : RTp B n I) (hQ : RQ I Q) (hQK : QK Q.1) (h : tkR B n i I) (hK : ∀ I' : zI, frG I I' → stR B n (lnA B n Q i).1 I' → (∀ j, (lnA B n Q i).1 = .inl j → RQ I' (lnA B n Q i).2) → K [.inl (aB (lnA B n Q i).1)] (I', L, P)) : mX12_lineRead K [refR] (I, L, P) := by
  have ln : lnA B n Q i = (tkA B n 21 (bodA B n Q i).1, (bodA B n Q i).2) := rfl
  rw [ln] at hK
  dsimp only at hK
  have kl : kd B n i ≤ 35 := kd_le B n i
  -- the end of a line
  have s203 : ∀ (I1 : zI) (z2 : Option zV), frG I I1 → stR B n (bodA B n Q i).1 I1 → (∀ j, (bodA B n Q i).1 = .inl j → RQ I1 (bodA B n Q i).2) → bX12_lineRead_203 K [some refR, some (.inl (aB (bodA B n Q i).1)), z2] [] (I1, L, P) := fun I1 z2 f1 s1 r1 => by
    unfold bX12_lineRead_203
    dsimp only [x_int, x_lng, x_ild, x_lld, x_ald, x_ist, x_ast, x_lst, x_inc, x_ii, x_id, x_i, x_ll, x_ld, x_l, x_cmp, x_i2l, x_l2i, x_if, x_ic, x_dup, x_pop, x_dup2, x_gI, x_gL, x_gR, x_g1, x_g0, x_gP, x_pI, x_pZ, x_pL, x_pP, x_al, x_as, x_all, x_asl, x_alr, x_len, x_cpy, x_m2, x_m1, x_m2l, x_m1l, x_call, x_cv, x_ri, x_rz, x_rl, x_rv, zg, zset, zbef, zlong, zcat, cond_true, cond_false, List.take, List.drop, rv1, rv2, rv3, rv4, rv5, rv6, rv7, sm0, sm1, bl0, bl1, bl2, bl3, bl4, bl5, bl6, bl7, bl8, List.nil_append, List.cons_append, List.length_cons, List.length_nil, Nat.reduceBEq, Nat.reduceAdd, Nat.reduceSub, ta, tb, tn0, tn1, tn2, tn3, tn4, tn5, tn6, tn7, tn8, tn9, tn10, tn11, tn12]
    cases e : (bodA B n Q i).1 with
    | inr x =>
      rw [e] at hK s1
      exact ⟨fun _ => ⟨Or.inl rfl, hK I1 f1 s1 (fun j ej => by cases ej)⟩, fun y => absurd rfl y⟩
    | inl j =>
      rw [e] at hK s1
      have r1 := r1 j e
      have tk : tkA B n 21 (.inl j) = if kd B n j = 21 then .inl (j + 1) else .inr (1, j) := rfl
      have s1 : tkR B n j I1 := s1
      refine ⟨fun y => absurd y (show ¬ (1 : Int32) = 0 by decide), fun _ => p_isSign (q := 21) (by decide) s1 (fun k21 => ?_) (fun n21 => ?_)⟩
      · dsimp only [x_int, x_lng, x_ild, x_lld, x_ald, x_ist, x_ast, x_lst, x_inc, x_ii, x_id, x_i, x_ll, x_ld, x_l, x_cmp, x_i2l, x_l2i, x_if, x_ic, x_dup, x_pop, x_dup2, x_gI, x_gL, x_gR, x_g1, x_g0, x_gP, x_pI, x_pZ, x_pL, x_pP, x_al, x_as, x_all, x_asl, x_alr, x_len, x_cpy, x_m2, x_m1, x_m2l, x_m1l, x_call, x_cv, x_ri, x_rz, x_rl, x_rv, zg, zset, zbef, zlong, zcat, cond_true, cond_false, List.take, List.drop, rv1, rv2, rv3, rv4, rv5, rv6, rv7, sm0, sm1, bl0, bl1, bl2, bl3, bl4, bl5, bl6, bl7, bl8, List.nil_append, List.cons_append, List.length_cons, List.length_nil, Nat.reduceBEq, Nat.reduceAdd, Nat.reduceSub, ta, tb, tn0, tn1, tn2, tn3, tn4, tn5, tn6, tn7, tn8, tn9, tn10, tn11, tn12]
        rw [tk, if_pos k21] at hK
        refine ⟨fun y => absurd y (show ¬ (1 : Int32) = 0 by decide), fun _ => p_next (hp.g f1) s1 (fun I2 f2 t2 => ?_)⟩
        dsimp only [x_int, x_lng, x_ild, x_lld, x_ald, x_ist, x_ast, x_lst, x_inc, x_ii, x_id, x_i, x_ll, x_ld, x_l, x_cmp, x_i2l, x_l2i, x_if, x_ic, x_dup, x_pop, x_dup2, x_gI, x_gL, x_gR, x_g1, x_g0, x_gP, x_pI, x_pZ, x_pL, x_pP, x_al, x_as, x_all, x_asl, x_alr, x_len, x_cpy, x_m2, x_m1, x_m2l, x_m1l, x_call, x_cv, x_ri, x_rz, x_rl, x_rv, zg, zset, zbef, zlong, zcat, cond_true, cond_false, List.take, List.drop, rv1, rv2, rv3, rv4, rv5, rv6, rv7, sm0, sm1, bl0, bl1, bl2, bl3, bl4, bl5, bl6, bl7, bl8, List.nil_append, List.cons_append, List.length_cons, List.length_nil, Nat.reduceBEq, Nat.reduceAdd, Nat.reduceSub, ta, tb, tn0, tn1, tn2, tn3, tn4, tn5, tn6, tn7, tn8, tn9, tn10, tn11, tn12]
        exact ⟨Or.inr rfl, hK I2 (f1.tr (frK_G f2)) t2 (fun _ _ => r1.t (fun a c u => f2 _ _ _ (by omega)))⟩
      · dsimp only [x_int, x_lng, x_ild, x_lld, x_ald, x_ist, x_ast, x_lst, x_inc, x_ii, x_id, x_i, x_ll, x_ld, x_l, x_cmp, x_i2l, x_l2i, x_if, x_ic, x_dup, x_pop, x_dup2, x_gI, x_gL, x_gR, x_g1, x_g0, x_gP, x_pI, x_pZ, x_pL, x_pP, x_al, x_as, x_all, x_asl, x_alr, x_len, x_cpy, x_m2, x_m1, x_m2l, x_m1l, x_call, x_cv, x_ri, x_rz, x_rl, x_rv, zg, zset, zbef, zlong, zcat, cond_true, cond_false, List.take, List.drop, rv1, rv2, rv3, rv4, rv5, rv6, rv7, sm0, sm1, bl0, bl1, bl2, bl3, bl4, bl5, bl6, bl7, bl8, List.nil_append, List.cons_append, List.length_cons, List.length_nil, Nat.reduceBEq, Nat.reduceAdd, Nat.reduceSub, ta, tb, tn0, tn1, tn2, tn3, tn4, tn5, tn6, tn7, tn8, tn9, tn10, tn11, tn12]
        rw [tk, if_neg n21] at hK
        refine ⟨fun _ => p_wrong (e := 1) s1 (fun I2 f2 s2 => ?_), fun y => absurd rfl y⟩
        exact ⟨Or.inl rfl, hK I2 (f1.tr (wrong_G f2)) s2 (fun j ej => by cases ej)⟩
  have ky := RTk_key h.k
  have kw := (RTk_which h.k).1
  have s5 : ∀ k, k < 19 → (sgm k ≤ 5 ↔ k ≤ 5) ∧ (k ≤ 5 → sgm k = k) ∧ sgm k < 19 := by decide
  have bad1 : ¬ kd B n i ≤ 5 → bX12_lineRead_16 K [some refR, none, none] [] (I, L, P) := fun n5 => by
    have bd : bodA B n Q i = (.inr (1, i), Q) := by
      unfold bodA
      rw [if_neg (by omega), if_neg (by omega), if_neg (by omega), if_neg (by omega), if_neg (by omega), if_neg (by omega)]
    rw [bd] at hK
    unfold bX12_lineRead_16
    dsimp only [x_int, x_lng, x_ild, x_lld, x_ald, x_ist, x_ast, x_lst, x_inc, x_ii, x_id, x_i, x_ll, x_ld, x_l, x_cmp, x_i2l, x_l2i, x_if, x_ic, x_dup, x_pop, x_dup2, x_gI, x_gL, x_gR, x_g1, x_g0, x_gP, x_pI, x_pZ, x_pL, x_pP, x_al, x_as, x_all, x_asl, x_alr, x_len, x_cpy, x_m2, x_m1, x_m2l, x_m1l, x_call, x_cv, x_ri, x_rz, x_rl, x_rv, zg, zset, zbef, zlong, zcat, cond_true, cond_false, List.take, List.drop, rv1, rv2, rv3, rv4, rv5, rv6, rv7, sm0, sm1, bl0, bl1, bl2, bl3, bl4, bl5, bl6, bl7, bl8, List.nil_append, List.cons_append, List.length_cons, List.length_nil, Nat.reduceBEq, Nat.reduceAdd, Nat.reduceSub, ta, tb, tn0, tn1, tn2, tn3, tn4, tn5, tn6, tn7, tn8, tn9, tn10, tn11, tn12]
    refine p_wrong (e := 1) h (fun I2 f2 s2 => ?_)
    exact ⟨Or.inl rfl, hK I2 (wrong_G f2) s2 (fun j ej => by cases ej)⟩
  show bX12_lineRead_0 K [some (.inr (.inr (12,0))), none, none] [] (I, L, P)
  unfold bX12_lineRead_0
  dsimp only [x_int, x_lng, x_ild, x_lld, x_ald, x_ist, x_ast, x_lst, x_inc, x_ii, x_id, x_i, x_ll, x_ld, x_l, x_cmp, x_i2l, x_l2i, x_if, x_ic, x_dup, x_pop, x_dup2, x_gI, x_gL, x_gR, x_g1, x_g0, x_gP, x_pI, x_pZ, x_pL, x_pP, x_al, x_as, x_all, x_asl, x_alr, x_len, x_cpy, x_m2, x_m1, x_m2l, x_m1l, x_call, x_cv, x_ri, x_rz, x_rl, x_rv, zg, zset, zbef, zlong, zcat, cond_true, cond_false, List.take, List.drop, rv1, rv2, rv3, rv4, rv5, rv6, rv7, sm0, sm1, bl0, bl1, bl2, bl3, bl4, bl5, bl6, bl7, bl8, List.nil_append, List.cons_append, List.length_cons, List.length_nil, Nat.reduceBEq, Nat.reduceAdd, Nat.reduceSub, ta, tb, tn0, tn1, tn2, tn3, tn4, tn5, tn6, tn7, tn8, tn9, tn10, tn11, tn12, g_sw]
  refine ⟨fun z => ?_, fun z => bad1 (fun u => z (ky.mpr (by omega)))⟩
  have k18 := ky.mp z
  have s5k := s5 _ (show kd B n i < 19 by omega)
  rw [kw k18]
  refine ⟨fun y => ?_, fun y => bad1 (fun u => y (by show nI _ ≤ nI 5; rw [n_le (by omega) (by omega)]; omega))⟩
  have y : nI (sgm (kd B n i)) ≤ nI 5 := y
  rw [n_le (by omega) (by omega)] at y
  have k5 : kd B n i ≤ 5 := s5k.1.mp y
  rw [s5k.2.1 k5]
  refine ⟨fun c => ?_, fun c0 => ⟨fun c => ?_, fun c1 => ⟨fun c => ?_, fun c2 => ⟨fun c => ?_, fun c3 => ⟨fun c => ?_, fun c4 => ?_⟩⟩⟩⟩⟩
  · have c : nI (kd B n i) = nI 0 := c
    rw [n_eq (by omega) (by omega)] at c
    refine p_handLine hp hQ h c (fun I1 f1 s1 r1 => ?_)
    dsimp only [x_int, x_lng, x_ild, x_lld, x_ald, x_ist, x_ast, x_lst, x_inc, x_ii, x_id, x_i, x_ll, x_ld, x_l, x_cmp, x_i2l, x_l2i, x_if, x_ic, x_dup, x_pop, x_dup2, x_gI, x_gL, x_gR, x_g1, x_g0, x_gP, x_pI, x_pZ, x_pL, x_pP, x_al, x_as, x_all, x_asl, x_alr, x_len, x_cpy, x_m2, x_m1, x_m2l, x_m1l, x_call, x_cv, x_ri, x_rz, x_rl, x_rv, zg, zset, zbef, zlong, zcat, cond_true, cond_false, List.take, List.drop, rv1, rv2, rv3, rv4, rv5, rv6, rv7, sm0, sm1, bl0, bl1, bl2, bl3, bl4, bl5, bl6, bl7, bl8, List.nil_append, List.cons_append, List.length_cons, List.length_nil, Nat.reduceBEq, Nat.reduceAdd, Nat.reduceSub, ta, tb, tn0, tn1, tn2, tn3, tn4, tn5, tn6, tn7, tn8, tn9, tn10, tn11, tn12]
    exact s203 I1 _ f1 s1 r1
  · have c : nI (kd B n i) = nI 1 := c
    rw [n_eq (by omega) (by omega)] at c
    refine p_woodLine hp hQ h c (fun I1 f1 s1 r1 => ?_)
    dsimp only [x_int, x_lng, x_ild, x_lld, x_ald, x_ist, x_ast, x_lst, x_inc, x_ii, x_id, x_i, x_ll, x_ld, x_l, x_cmp, x_i2l, x_l2i, x_if, x_ic, x_dup, x_pop, x_dup2, x_gI, x_gL, x_gR, x_g1, x_g0, x_gP, x_pI, x_pZ, x_pL, x_pP, x_al, x_as, x_all, x_asl, x_alr, x_len, x_cpy, x_m2, x_m1, x_m2l, x_m1l, x_call, x_cv, x_ri, x_rz, x_rl, x_rv, zg, zset, zbef, zlong, zcat, cond_true, cond_false, List.take, List.drop, rv1, rv2, rv3, rv4, rv5, rv6, rv7, sm0, sm1, bl0, bl1, bl2, bl3, bl4, bl5, bl6, bl7, bl8, List.nil_append, List.cons_append, List.length_cons, List.length_nil, Nat.reduceBEq, Nat.reduceAdd, Nat.reduceSub, ta, tb, tn0, tn1, tn2, tn3, tn4, tn5, tn6, tn7, tn8, tn9, tn10, tn11, tn12]
    exact s203 I1 _ f1 s1 r1
  · have c : nI (kd B n i) = nI 2 := c
    rw [n_eq (by omega) (by omega)] at c
    refine p_rapLine hp hQ h c (fun I1 f1 s1 r1 => ?_)
    dsimp only [x_int, x_lng, x_ild, x_lld, x_ald, x_ist, x_ast, x_lst, x_inc, x_ii, x_id, x_i, x_ll, x_ld, x_l, x_cmp, x_i2l, x_l2i, x_if, x_ic, x_dup, x_pop, x_dup2, x_gI, x_gL, x_gR, x_g1, x_g0, x_gP, x_pI, x_pZ, x_pL, x_pP, x_al, x_as, x_all, x_asl, x_alr, x_len, x_cpy, x_m2, x_m1, x_m2l, x_m1l, x_call, x_cv, x_ri, x_rz, x_rl, x_rv, zg, zset, zbef, zlong, zcat, cond_true, cond_false, List.take, List.drop, rv1, rv2, rv3, rv4, rv5, rv6, rv7, sm0, sm1, bl0, bl1, bl2, bl3, bl4, bl5, bl6, bl7, bl8, List.nil_append, List.cons_append, List.length_cons, List.length_nil, Nat.reduceBEq, Nat.reduceAdd, Nat.reduceSub, ta, tb, tn0, tn1, tn2, tn3, tn4, tn5, tn6, tn7, tn8, tn9, tn10, tn11, tn12]
    exact s203 I1 _ f1 s1 r1
  · have c : nI (kd B n i) = nI 3 := c
    rw [n_eq (by omega) (by omega)] at c
    refine p_onceLine (w := 0) (hi := 24) (Or.inl ⟨rfl, rfl⟩) hp hQ h c (fun I1 f1 s1 r1 => ?_)
    dsimp only [x_int, x_lng, x_ild, x_lld, x_ald, x_ist, x_ast, x_lst, x_inc, x_ii, x_id, x_i, x_ll, x_ld, x_l, x_cmp, x_i2l, x_l2i, x_if, x_ic, x_dup, x_pop, x_dup2, x_gI, x_gL, x_gR, x_g1, x_g0, x_gP, x_pI, x_pZ, x_pL, x_pP, x_al, x_as, x_all, x_asl, x_alr, x_len, x_cpy, x_m2, x_m1, x_m2l, x_m1l, x_call, x_cv, x_ri, x_rz, x_rl, x_rv, zg, zset, zbef, zlong, zcat, cond_true, cond_false, List.take, List.drop, rv1, rv2, rv3, rv4, rv5, rv6, rv7, sm0, sm1, bl0, bl1, bl2, bl3, bl4, bl5, bl6, bl7, bl8, List.nil_append, List.cons_append, List.length_cons, List.length_nil, Nat.reduceBEq, Nat.reduceAdd, Nat.reduceSub, ta, tb, tn0, tn1, tn2, tn3, tn4, tn5, tn6, tn7, tn8, tn9, tn10, tn11, tn12]
    exact s203 I1 _ f1 s1 r1
  · have c : nI (kd B n i) = nI 4 := c
    rw [n_eq (by omega) (by omega)] at c
    refine p_onceLine (w := 1) (hi := 99999) (Or.inr ⟨rfl, rfl⟩) hp hQ h c (fun I1 f1 s1 r1 => ?_)
    dsimp only [x_int, x_lng, x_ild, x_lld, x_ald, x_ist, x_ast, x_lst, x_inc, x_ii, x_id, x_i, x_ll, x_ld, x_l, x_cmp, x_i2l, x_l2i, x_if, x_ic, x_dup, x_pop, x_dup2, x_gI, x_gL, x_gR, x_g1, x_g0, x_gP, x_pI, x_pZ, x_pL, x_pP, x_al, x_as, x_all, x_asl, x_alr, x_len, x_cpy, x_m2, x_m1, x_m2l, x_m1l, x_call, x_cv, x_ri, x_rz, x_rl, x_rv, zg, zset, zbef, zlong, zcat, cond_true, cond_false, List.take, List.drop, rv1, rv2, rv3, rv4, rv5, rv6, rv7, sm0, sm1, bl0, bl1, bl2, bl3, bl4, bl5, bl6, bl7, bl8, List.nil_append, List.cons_append, List.length_cons, List.length_nil, Nat.reduceBEq, Nat.reduceAdd, Nat.reduceSub, ta, tb, tn0, tn1, tn2, tn3, tn4, tn5, tn6, tn7, tn8, tn9, tn10, tn11, tn12]
    exact s203 I1 _ f1 s1 r1
  -- a law
  have c0 : ¬ nI (kd B n i) = nI 0 := c0
  have c1 : ¬ nI (kd B n i) = nI 1 := c1
  have c2 : ¬ nI (kd B n i) = nI 2 := c2
  have c3 : ¬ nI (kd B n i) = nI 3 := c3
  have c4 : ¬ nI (kd B n i) = nI 4 := c4
  rw [n_eq (by omega) (by omega)] at c0 c1 c2 c3 c4
  have ke : kd B n i = 5 := by omega
  have bd : bodA B n Q i = laA B n Q i := (if_neg (by omega)).trans ((if_neg (by omega)).trans ((if_neg (by omega)).trans ((if_neg (by omega)).trans ((if_neg (by omega)).trans (if_pos ke)))))
  have im : ¬ i = m := fun u => by rw [u] at ke; have := hm.2; omega
  refine p_next hp h (fun I1 f1 t1 => ?_)
  have G1 : frG I I1 := frK_G f1
  dsimp only [x_int, x_lng, x_ild, x_lld, x_ald, x_ist, x_ast, x_lst, x_inc, x_ii, x_id, x_i, x_ll, x_ld, x_l, x_cmp, x_i2l, x_l2i, x_if, x_ic, x_dup, x_pop, x_dup2, x_gI, x_gL, x_gR, x_g1, x_g0, x_gP, x_pI, x_pZ, x_pL, x_pP, x_al, x_as, x_all, x_asl, x_alr, x_len, x_cpy, x_m2, x_m1, x_m2l, x_m1l, x_call, x_cv, x_ri, x_rz, x_rl, x_rv, zg, zset, zbef, zlong, zcat, cond_true, cond_false, List.take, List.drop, rv1, rv2, rv3, rv4, rv5, rv6, rv7, sm0, sm1, bl0, bl1, bl2, bl3, bl4, bl5, bl6, bl7, bl8, List.nil_append, List.cons_append, List.length_cons, List.length_nil, Nat.reduceBEq, Nat.reduceAdd, Nat.reduceSub, ta, tb, tn0, tn1, tn2, tn3, tn4, tn5, tn6, tn7, tn8, tn9, tn10, tn11, tn12, g_sw]
  have ky1 := RTk_key t1.k
  have kw1 := (RTk_which t1.k).1
  have kl1 : kd B n (i + 1) ≤ 35 := kd_le B n (i + 1)
  have s6 : ∀ k, k < 19 → (sgm k < 6 ↔ k < 6) ∧ (sgm k ≤ 8 ↔ k ≤ 8) ∧ (k ≤ 8 → sgm k = k) ∧ sgm k < 19 := by decide
  have bad2 : (kd B n (i + 1) < 6 ∨ 8 < kd B n (i + 1)) → ∀ z1 z2 : Option zV, bX12_lineRead_136 K [some refR, z1, z2] [] (I1, L, P) := fun n5 z1 z2 => by
    have le : laA B n Q i = (.inr (1, i + 1), Q) := if_pos n5
    rw [bd, le] at hK
    unfold bX12_lineRead_136
    dsimp only [x_int, x_lng, x_ild, x_lld, x_ald, x_ist, x_ast, x_lst, x_inc, x_ii, x_id, x_i, x_ll, x_ld, x_l, x_cmp, x_i2l, x_l2i, x_if, x_ic, x_dup, x_pop, x_dup2, x_gI, x_gL, x_gR, x_g1, x_g0, x_gP, x_pI, x_pZ, x_pL, x_pP, x_al, x_as, x_all, x_asl, x_alr, x_len, x_cpy, x_m2, x_m1, x_m2l, x_m1l, x_call, x_cv, x_ri, x_rz, x_rl, x_rv, zg, zset, zbef, zlong, zcat, cond_true, cond_false, List.take, List.drop, rv1, rv2, rv3, rv4, rv5, rv6, rv7, sm0, sm1, bl0, bl1, bl2, bl3, bl4, bl5, bl6, bl7, bl8, List.nil_append, List.cons_append, List.length_cons, List.length_nil, Nat.reduceBEq, Nat.reduceAdd, Nat.reduceSub, ta, tb, tn0, tn1, tn2, tn3, tn4, tn5, tn6, tn7, tn8, tn9, tn10, tn11, tn12]
    refine p_wrong (e := 1) t1 (fun I2 f2 s2 => ?_)
    exact ⟨Or.inl rfl, hK I2 (G1.tr (wrong_G f2)) s2 (fun j ej => by cases ej)⟩
  refine ⟨fun z1 => ?_, fun z1 => bad2 (by by_cases u : kd B n (i + 1) ≤ 18; exact absurd (ky1.mpr u) z1; omega) _ _⟩
  have k18' := ky1.mp z1
  have s6k := s6 _ (show kd B n (i + 1) < 19 by omega)
  rw [kw1 k18']
  refine ⟨fun y1 => bad2 ?_ _ _, fun y1 => ⟨fun y2 => ?_, fun y2 => bad2 ?_ _ _⟩⟩
  · have y1 : nI (sgm (kd B n (i + 1))) < nI 6 := y1
    rw [n_lt (by omega) (by omega)] at y1
    omega
  rotate_left
  · have y2 : ¬ nI (sgm (kd B n (i + 1))) ≤ nI 8 := y2
    rw [n_le (by omega) (by omega)] at y2
    omega
  have y1 : ¬ nI (sgm (kd B n (i + 1))) < nI 6 := y1
  have y2 : nI (sgm (kd B n (i + 1))) ≤ nI 8 := y2
  rw [n_lt (by omega) (by omega)] at y1
  rw [n_le (by omega) (by omega)] at y2
  obtain ⟨w, hw, ew⟩ : ∃ w, w < 3 ∧ kd B n (i + 1) = 6 + w := ⟨kd B n (i + 1) - 6, by omega, by omega⟩
  rw [s6k.2.2.1 (by omega), ew]
  have e3 : (3 : Int32) + nI (6 + w) - 6 = nI (3 + w) := by
    have : ∀ w, w < 3 → (3 : Int32) + nI (6 + w) - 6 = nI (3 + w) := by decide
    exact this w hw
  rw [e3]
  obtain ⟨cnt, c64, ec⟩ := hQK
  have cc : (Q.1.2.1 13 0).toNatClampNeg = cnt := by rw [ec]; exact n_cl (by omega)
  have le : laA B n Q i = if ¬ Q.1.2.2 w = [] then (.inr (3, i + 1), Q) else match exA B n (i + 2) cnt with
    | .inl e => (.inr e, Q)
    | .inr (j, cs, cnt) => (.inl j, (setL Q.1 w cs cnt, Q.2)) := by
    unfold laA
    rw [if_neg (by omega), ew, show 6 + w - 6 = w by omega, cc]
    cases exA B n (i + 2) cnt <;> rfl
  obtain ⟨⟨q1, q2, q3⟩, ⟨b6, b4, b10⟩, qh, qw, qr, qo, ql, qf⟩ := hQ
  have told := (ql w hw).told
  have im1 : ¬ i + 1 = m := fun u => by rw [u] at ew; have := hm.2; omega
  dsimp only [x_int, x_lng, x_ild, x_lld, x_ald, x_ist, x_ast, x_lst, x_inc, x_ii, x_id, x_i, x_ll, x_ld, x_l, x_cmp, x_i2l, x_l2i, x_if, x_ic, x_dup, x_pop, x_dup2, x_gI, x_gL, x_gR, x_g1, x_g0, x_gP, x_pI, x_pZ, x_pL, x_pP, x_al, x_as, x_all, x_asl, x_alr, x_len, x_cpy, x_m2, x_m1, x_m2l, x_m1l, x_call, x_cv, x_ri, x_rz, x_rl, x_rv, zg, zset, zbef, zlong, zcat, cond_true, cond_false, List.take, List.drop, rv1, rv2, rv3, rv4, rv5, rv6, rv7, sm0, sm1, bl0, bl1, bl2, bl3, bl4, bl5, bl6, bl7, bl8, List.nil_append, List.cons_append, List.length_cons, List.length_nil, Nat.reduceBEq, Nat.reduceAdd, Nat.reduceSub, ta, tb, tn0, tn1, tn2, tn3, tn4, tn5, tn6, tn7, tn8, tn9, tn10, tn11, tn12, zk_66, zl_66, cond_true]
  rw [n_cl (n := 3 + w) (by omega), f1 66 0 (3 + w) (by omega)]
  refine ⟨n_zin (by show 3 + w < 6; omega) (by decide), fun y => ?_, fun y => ?_⟩
  rotate_left
  · rcases told with ⟨u1, u2⟩ | ⟨u1, u2⟩
    · exact absurd u2 y
    · rw [if_pos u1] at le
      rw [bd, le] at hK
      refine p_wrong (e := 3) t1 (fun I2 f2 s2 => ?_)
      exact ⟨Or.inl rfl, hK I2 (G1.tr (wrong_G f2)) s2 (fun j ej => by cases ej)⟩
  have l0 : Q.1.2.2 w = [] := by
    rcases told with ⟨u1, u2⟩ | ⟨u1, u2⟩
    · exact u1
    · rw [u2] at y; exact absurd y (by decide)
  rw [if_neg (fun u => u l0)] at le
  refine ⟨n_zin (by show 3 + w < 6; omega) (by decide), ?_⟩
  obtain ⟨J2, g2, x2, k2⟩ := zsI_ex I1 L P 66 0 (3 + w) (1 : Int32)
  have g2 : zsI (I1, L, P) 66 0 (3 + w) (vp_nar .boolean 1) = (J2, L, P) := g2
  rw [g2]
  have G2 : frG I J2 := G1.tr (fun a b q u => k2 a b q (fun v => u ⟨v.2.1, by unfold rrK; omega⟩))
  refine p_next (hp.g G2) (t1.q (fun q u1 u2 => k2 _ _ _ (by omega))) (fun I3 f3 t3 => ?_)
  have G3 : frG I I3 := G2.tr (frK_G f3)
  dsimp only [x_int, x_lng, x_ild, x_lld, x_ald, x_ist, x_ast, x_lst, x_inc, x_ii, x_id, x_i, x_ll, x_ld, x_l, x_cmp, x_i2l, x_l2i, x_if, x_ic, x_dup, x_pop, x_dup2, x_gI, x_gL, x_gR, x_g1, x_g0, x_gP, x_pI, x_pZ, x_pL, x_pP, x_al, x_as, x_all, x_asl, x_alr, x_len, x_cpy, x_m2, x_m1, x_m2l, x_m1l, x_call, x_cv, x_ri, x_rz, x_rl, x_rv, zg, zset, zbef, zlong, zcat, cond_true, cond_false, List.take, List.drop, rv1, rv2, rv3, rv4, rv5, rv6, rv7, sm0, sm1, bl0, bl1, bl2, bl3, bl4, bl5, bl6, bl7, bl8, List.nil_append, List.cons_append, List.length_cons, List.length_nil, Nat.reduceBEq, Nat.reduceAdd, Nat.reduceSub, ta, tb, tn0, tn1, tn2, tn3, tn4, tn5, tn6, tn7, tn8, tn9, tn10, tn11, tn12, zk_67, zl_67, zk_68, zl_68, cond_true]
  have a3 : ∀ a c, ¬ (a = 12 ∧ 7 ≤ c ∧ c ≤ 10) → ¬ (a = 66 ∧ c = 3 + w) → I3 a 0 c = I a 0 c := fun a c u1 u2 => by
    rw [f3 _ _ _ (by omega), k2 _ _ _ (by omega), f1 _ _ _ (by omega)]
  have e19 : I3 12 0 19 = nI cnt := by rw [a3 _ _ (by decide) (by omega)]; exact qo.2.2.1.trans ec
  have e44 : I3 12 0 44 = nI cnt := by rw [a3 _ _ (by decide) (by omega)]; exact qo.2.2.2.trans ec
  rw [e19]
  refine ⟨n_zin (by show 3 + w < 6; omega) (by decide), ?_⟩
  obtain ⟨J4, g4, x4, k4⟩ := zsI_ex I3 L P 67 0 (3 + w) (nI cnt)
  rw [g4]
  have G4 : frG I J4 := G3.tr (fun a b q u => k4 a b q (fun v => u ⟨v.2.1, by unfold rrK; omega⟩))
  refine p_sumRead (m := m) (a := cnt) hm (show i + 1 + 1 ≤ m by omega) c64 (hp.g G4) (t3.q (fun q u1 u2 => k4 _ _ _ (by omega))) ((k4 _ _ _ (by omega)).trans e19) ((k4 _ _ _ (by omega)).trans e44) (fun I5 b5 f5 o5 => ?_)
  have G5 : frG I I5 := G4.tr (sK_G f5)
  dsimp only [x_int, x_lng, x_ild, x_lld, x_ald, x_ist, x_ast, x_lst, x_inc, x_ii, x_id, x_i, x_ll, x_ld, x_l, x_cmp, x_i2l, x_l2i, x_if, x_ic, x_dup, x_pop, x_dup2, x_gI, x_gL, x_gR, x_g1, x_g0, x_gP, x_pI, x_pZ, x_pL, x_pP, x_al, x_as, x_all, x_asl, x_alr, x_len, x_cpy, x_m2, x_m1, x_m2l, x_m1l, x_call, x_cv, x_ri, x_rz, x_rl, x_rv, zg, zset, zbef, zlong, zcat, cond_true, cond_false, List.take, List.drop, rv1, rv2, rv3, rv4, rv5, rv6, rv7, sm0, sm1, bl0, bl1, bl2, bl3, bl4, bl5, bl6, bl7, bl8, List.nil_append, List.cons_append, List.length_cons, List.length_nil, Nat.reduceBEq, Nat.reduceAdd, Nat.reduceSub, ta, tb, tn0, tn1, tn2, tn3, tn4, tn5, tn6, tn7, tn8, tn9, tn10, tn11, tn12, zk_68, zl_68, cond_true]
  refine ⟨n_zin (by show 3 + w < 6; omega) (by decide), ?_⟩
  obtain ⟨J6, g6, x6, k6⟩ := zsI_ex I5 L P 68 0 (3 + w) (I5 12 0 19)
  rw [g6]
  have G6 : frG I J6 := G5.tr (fun a b q u => k6 a b q (fun v => u ⟨v.2.1, by unfold rrK; omega⟩))
  have o5 : sout B n cnt I5 b5 (exA B n (i + 2) cnt) := o5
  -- it has failed
  have lost : ∀ x : Nat × Nat, b5 = 0 → stR B n (.inr x) I5 → (lnA B n Q i).1 = .inr x → bX12_lineRead_203 K [some refR, some (.inl b5), some (.inl (nI (3 + w)))] [] (J6, L, P) := fun x e0 s5 el => by
    rw [e0]
    unfold bX12_lineRead_203
    dsimp only [x_int, x_lng, x_ild, x_lld, x_ald, x_ist, x_ast, x_lst, x_inc, x_ii, x_id, x_i, x_ll, x_ld, x_l, x_cmp, x_i2l, x_l2i, x_if, x_ic, x_dup, x_pop, x_dup2, x_gI, x_gL, x_gR, x_g1, x_g0, x_gP, x_pI, x_pZ, x_pL, x_pP, x_al, x_as, x_all, x_asl, x_alr, x_len, x_cpy, x_m2, x_m1, x_m2l, x_m1l, x_call, x_cv, x_ri, x_rz, x_rl, x_rv, zg, zset, zbef, zlong, zcat, cond_true, cond_false, List.take, List.drop, rv1, rv2, rv3, rv4, rv5, rv6, rv7, sm0, sm1, bl0, bl1, bl2, bl3, bl4, bl5, bl6, bl7, bl8, List.nil_append, List.cons_append, List.length_cons, List.length_nil, Nat.reduceBEq, Nat.reduceAdd, Nat.reduceSub, ta, tb, tn0, tn1, tn2, tn3, tn4, tn5, tn6, tn7, tn8, tn9, tn10, tn11, tn12]
    have el : tkA B n 21 (bodA B n Q i).1 = .inr x := el
    rw [el] at hK
    refine ⟨fun _ => ⟨Or.inl rfl, hK J6 G6 ⟨?_, ?_⟩ (fun j ej => by cases ej)⟩, fun y => absurd rfl y⟩
    · rw [k6 _ _ _ (by omega)]; exact s5.1
    · rw [k6 _ _ _ (by omega)]; exact s5.2
  cases ex : exA B n (i + 2) cnt with
  | inl e =>
    rw [ex] at o5 le
    exact lost e o5.1 o5.2 (by rw [ln, bd, le]; rfl)
  | inr r =>
    obtain ⟨j, cs, cnt2⟩ := r
    rw [ex] at o5 le
    dsimp only at le
    rcases o5 with ⟨k21, b1, tj, u19, u44, ucs, u64, urk⟩ | ⟨n21, b0, s5⟩
    rotate_left
    · refine lost (1, j) b0 s5 ?_
      rw [ln, bd, le]
      exact if_neg n21
    have l21 : (bodA B n Q i).1 = .inl j := by rw [bd, le]
    have l22 : (bodA B n Q i).2 = (setL Q.1 w cs cnt2, Q.2) := by rw [bd, le]
    have rs := s203 J6 (some (.inl (nI (3 + w)))) G6
    rw [l21, l22] at rs
    rw [b1]
    refine rs (tkR.q tj (fun q u1 u2 => k6 _ _ _ (by omega))) (fun _ _ => ?_)
    have al : ∀ a c, ¬ (a = 12 ∧ ((4 ≤ c ∧ c ≤ 11) ∨ c = 19 ∨ (41 ≤ c ∧ c ≤ 46))) → ¬ ((66 ≤ a ∧ a ≤ 68) ∧ c = 3 + w) → ¬ ((69 ≤ a ∧ a ≤ 71) ∧ 64 + cnt ≤ c) → ¬ (a = 72 ∨ a = 73) → J6 a 0 c = I a 0 c := fun a c u1 u2 u3 u4 => by
      rw [k6 _ _ _ (by omega), f5.lo (fun v => by unfold sK at v; omega), k4 _ _ _ (by omega)]
      exact a3 a c (by omega) (by omega)
    have Fd : ∀ a x, ¬ (a = 13 ∧ x = 0) → (setL Q.1 w cs cnt2).2.1 a x = Q.1.2.1 a x := fun a x u => by
      unfold setL
      dsimp only
      rw [if_neg u]
    have Gd : (setL Q.1 w cs cnt2).2.1 13 0 = nI cnt2 := by
      unfold setL
      dsimp only
      rw [if_pos ⟨rfl, rfl⟩]
    refine ⟨⟨?_, ?_, ?_⟩, ⟨b6, b4, b10⟩, fun x hx => ?_, fun x hx => ?_, fun x hx => ?_, ⟨?_, ?_, ?_, ?_⟩, fun q hq => ?_, ?_, ?_⟩
    · rw [al _ _ (by decide) (by omega) (by omega) (by omega)]; exact q1
    · rw [al _ _ (by decide) (by omega) (by omega) (by omega)]; exact q2
    · rw [al _ _ (by decide) (by omega) (by omega) (by omega)]; exact q3
    · dsimp only at hx ⊢
      obtain ⟨u1, u2, u3, u4⟩ := qh x hx
      rw [al _ _ (by omega) (by omega) (by omega) (by omega), al _ _ (by omega) (by omega) (by omega) (by omega), al _ _ (by omega) (by omega) (by omega) (by omega), Fd 0 x (by omega), Fd 1 x (by omega), Fd 2 x (by omega)]
      refine ⟨u1, u2, u3, fun q hq => ?_⟩
      rw [al _ _ (by omega) (by omega) (by omega) (by omega), Fd 3 _ (by omega)]; exact u4 q hq
    · dsimp only at hx ⊢
      rw [al _ _ (by omega) (by omega) (by omega) (by omega), al _ _ (by omega) (by omega) (by omega) (by omega), al _ _ (by omega) (by omega) (by omega) (by omega), al _ _ (by omega) (by omega) (by omega) (by omega), Fd 4 x (by omega), Fd 5 x (by omega), Fd 6 x (by omega), Fd 7 x (by omega)]
      exact qw x hx
    · dsimp only at hx ⊢
      rw [al _ _ (by omega) (by omega) (by omega) (by omega), al _ _ (by omega) (by omega) (by omega) (by omega), al _ _ (by omega) (by omega) (by omega) (by omega), Fd 8 x (by omega), Fd 9 x (by omega), Fd 10 x (by omega)]
      exact qr x hx
    · dsimp only; rw [al _ _ (by omega) (by omega) (by omega) (by omega), Fd 11 0 (by omega)]; exact qo.1
    · dsimp only; rw [al _ _ (by omega) (by omega) (by omega) (by omega), Fd 12 0 (by omega)]; exact qo.2.1
    · dsimp only; rw [Gd, k6 _ _ _ (by omega)]; exact u19
    · dsimp only; rw [Gd, k6 _ _ _ (by omega)]; exact u44
    · dsimp only
      rw [Gd, n_cl (n := cnt2) (by omega)]
      by_cases e : q = w
      · subst e
        have lw : (setL Q.1 q cs cnt2).2.2 q = cs := if_pos rfl
        rw [lw]
        refine Or.inr ⟨?_, cnt, ?_, ?_, by omega, RK_frb (I := vk I5) (I' := vk J6) _ _ _ (fun a c u v => k6 _ _ _ (by omega)) urk⟩
        · rw [k6 _ _ _ (by omega), f5.lo (fun v => by unfold sK at v; omega), k4 _ _ _ (by omega), f3 _ _ _ (by omega)]; exact x2
        · rw [k6 _ _ _ (by omega), f5.lo (fun v => by unfold sK at v; omega)]; exact x4
        · rw [x6, u19, ucs]
      · have lw : (setL Q.1 w cs cnt2).2.2 q = Q.1.2.2 q := if_neg e
        rw [lw]
        have lq := ql q hq
        rw [cc] at lq
        exact (lq.f hq (fun a x u => al _ _ (by omega) (by omega) (by omega) (by omega)) (fun a x u v => al _ _ (by omega) (by omega) (by omega) (by omega))).mono (by omega)
    · dsimp only; rw [al _ _ (by omega) (by omega) (by omega) (by omega)]; exact qf.1
    · dsimp only; rw [al _ _ (by omega) (by omega) (by omega) (by omega)]; exact qf.2
