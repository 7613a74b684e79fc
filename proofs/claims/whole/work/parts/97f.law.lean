theorem p_isBetween {K : zQ} {M : zM} {k : Nat} (hk : k ≤ 35) (h1 : isB k → K [.inl 1] M) (h0 : ¬ isB k → K [.inl 0] M) : mX5_isBetween K [.inl (nI k)] M := by
  show bX5_isBetween_0 K [some (.inl (nI k))] [] M
  unfold bX5_isBetween_0
  dsimp only [x_int, x_lng, x_ild, x_lld, x_ald, x_ist, x_ast, x_lst, x_inc, x_ii, x_id, x_i, x_ll, x_ld, x_l, x_cmp, x_i2l, x_l2i, x_if, x_ic, x_dup, x_pop, x_dup2, x_gI, x_gL, x_gR, x_g1, x_g0, x_gP, x_pI, x_pZ, x_pL, x_pP, x_al, x_as, x_all, x_asl, x_alr, x_len, x_cpy, x_m2, x_m1, x_m2l, x_m1l, x_call, x_cv, x_ri, x_rz, x_rl, x_rv, zg, zset, zbef, zlong, zcat, cond_true, cond_false, List.take, List.drop, rv1, rv2, rv3, rv4, rv5, rv6, rv7, sm0, sm1, bl0, bl1, bl2, bl3, bl4, bl5, bl6, bl7, bl8, List.nil_append, List.cons_append, List.length_cons, List.length_nil, Nat.reduceBEq, Nat.reduceAdd, Nat.reduceSub, ta, tb, tn0, tn1, tn2, tn3, tn4, tn5, tn6, tn7, tn8, tn9, tn10, tn11, tn12, bX5_isBetween_17, bX5_isBetween_18]
  have sel : ∀ k, k < 36 → ¬ k = 11 → (isB k ↔ 0 < rkC k) := by decide
  have r6 : ∀ k, k < 36 → rkC k ≤ 6 := by decide
  refine ⟨fun z => ⟨Or.inl rfl, h0 ?_⟩, fun z => p_rankOf hk ?_⟩
  · have z : nI k = nI 11 := z
    rw [n_eq (by omega) (by omega)] at z
    unfold isB; omega
  · have z : ¬ nI k = nI 11 := z
    rw [n_eq (by omega) (by omega)] at z
    have e := sel k (by omega) z
    have l6 := r6 k (by omega)
    dsimp only [x_int, x_lng, x_ild, x_lld, x_ald, x_ist, x_ast, x_lst, x_inc, x_ii, x_id, x_i, x_ll, x_ld, x_l, x_cmp, x_i2l, x_l2i, x_if, x_ic, x_dup, x_pop, x_dup2, x_gI, x_gL, x_gR, x_g1, x_g0, x_gP, x_pI, x_pZ, x_pL, x_pP, x_al, x_as, x_all, x_asl, x_alr, x_len, x_cpy, x_m2, x_m1, x_m2l, x_m1l, x_call, x_cv, x_ri, x_rz, x_rl, x_rv, zg, zset, zbef, zlong, zcat, cond_true, cond_false, List.take, List.drop, rv1, rv2, rv3, rv4, rv5, rv6, rv7, sm0, sm1, bl0, bl1, bl2, bl3, bl4, bl5, bl6, bl7, bl8, List.nil_append, List.cons_append, List.length_cons, List.length_nil, Nat.reduceBEq, Nat.reduceAdd, Nat.reduceSub, ta, tb, tn0, tn1, tn2, tn3, tn4, tn5, tn6, tn7, tn8, tn9, tn10, tn11, tn12, bX5_isBetween_17, bX5_isBetween_18]
    refine ⟨fun y => ⟨Or.inl rfl, h0 (fun u => ?_)⟩, fun y => ⟨Or.inr rfl, h1 (e.mpr ?_)⟩⟩
    · have y : nI (rkC k) ≤ nI 0 := y
      rw [n_le (by omega) (by omega)] at y
      have := e.mp u; omega
    · have y : ¬ nI (rkC k) ≤ nI 0 := y
      rw [n_le (by omega) (by omega)] at y
      omega
/-- what a sum comes to -/
def xend (B : Nat → Nat) (n m d w : Nat) (Q : aQ) (r : (Nat × Nat) ⊕ (Nat × List Int32 × Nat)) (I : zI) : Prop := match r with
  | .inl e => stC B n m (.inr e) I
  | .inr (j, cs, cnt) => stC B n m (.inl j) I ∧ CQ I d (setL Q.1 w cs cnt, Q.2) ∧ cnt ≤ 64 ∧ cs.length ≤ 64
theorem xrun_s (B : Nat → Nat) (n f : Nat) (X : aX) : xrun B n (f + 1) X = match xst B n X with
    | .inl e => .inl e
    | .inr (.inl r) => .inr r
    | .inr (.inr X') => xrun B n f X' := rfl
theorem p_readExpF {K : zQ} {I : zI} {L : zJ} {P : zP} {B : Nat → Nat} {n m d : Nat} {x : Nat × Nat} (hm : TKm B n m I) (h : stC B n m (.inr x) I) (hK : ∀ I' : zI, frD d I I' → (∀ c, I' 9 d c = I 9 d c) → TKm B n m I' → stC B n m (.inr x) I' → K [] (I', L, P)) : mX5_readExpression K [rdR] (I, L, P) := by
  show bX5_readExpression_0 K [some (.inr (.inr (5,0))), none, none, none] [] (I, L, P)
  unfold bX5_readExpression_0
  dsimp only [x_int, x_lng, x_ild, x_lld, x_ald, x_ist, x_ast, x_lst, x_inc, x_ii, x_id, x_i, x_ll, x_ld, x_l, x_cmp, x_i2l, x_l2i, x_if, x_ic, x_dup, x_pop, x_dup2, x_gI, x_gL, x_gR, x_g1, x_g0, x_gP, x_pI, x_pZ, x_pL, x_pP, x_al, x_as, x_all, x_asl, x_alr, x_len, x_cpy, x_m2, x_m1, x_m2l, x_m1l, x_call, x_cv, x_ri, x_rz, x_rl, x_rv, zg, zset, zbef, zlong, zcat, cond_true, cond_false, List.take, List.drop, rv1, rv2, rv3, rv4, rv5, rv6, rv7, sm0, sm1, bl0, bl1, bl2, bl3, bl4, bl5, bl6, bl7, bl8, List.nil_append, List.cons_append, List.length_cons, List.length_nil, Nat.reduceBEq, Nat.reduceAdd, Nat.reduceSub, ta, tb, tn0, tn1, tn2, tn3, tn4, tn5, tn6, tn7, tn8, tn9, tn10, tn11, tn12, zk_24, zl_24]
  obtain ⟨J1, e1, y1, k1⟩ := zsI_ex I L P 5 0 5 0
  rw [e1]
  obtain ⟨J2, e2, y2, k2⟩ := zsI_ex J1 L P 5 0 6 0
  rw [e2, nar0]
  obtain ⟨J3, e3, y3, k3⟩ := zsI_ex J2 L P 24 0 0 0
  rw [e3]
  obtain ⟨J4, e4, y4, k4⟩ := zsI_ex J3 L P 5 0 7 1
  rw [e4]
  have al : ∀ a b c, ¬ (a = 5 ∧ b = 0 ∧ (c = 5 ∨ c = 6 ∨ c = 7)) → ¬ (a = 24 ∧ b = 0) → J4 a b c = I a b c := fun a b c u1 u2 => by
    rw [k4 a b c (by omega), k3 a b c (by omega), k2 a b c (by omega), k1 a b c (by omega)]
  have c4 : stC B n m (.inr x) J4 := h.q (fun q => al _ _ _ (by omega) (by omega)) (al _ _ _ (by decide) (by omega)) (al _ _ _ (by decide) (by omega))
  have hh : J4 5 0 5 = nI 0 := by rw [k4 _ _ _ (by decide), k3 _ _ _ (by omega), k2 _ _ _ (by decide)]; exact y1
  have oo : J4 5 0 6 = nI 0 := by rw [k4 _ _ _ (by decide), k3 _ _ _ (by omega)]; exact y2
  have out : ∀ zs : zL, bX5_readExpression_172 K (some rdR :: zs) [] (J4, L, P) := fun zs => by
    unfold bX5_readExpression_172
    dsimp only [x_int, x_lng, x_ild, x_lld, x_ald, x_ist, x_ast, x_lst, x_inc, x_ii, x_id, x_i, x_ll, x_ld, x_l, x_cmp, x_i2l, x_l2i, x_if, x_ic, x_dup, x_pop, x_dup2, x_gI, x_gL, x_gR, x_g1, x_g0, x_gP, x_pI, x_pZ, x_pL, x_pP, x_al, x_as, x_all, x_asl, x_alr, x_len, x_cpy, x_m2, x_m1, x_m2l, x_m1l, x_call, x_cv, x_ri, x_rz, x_rl, x_rv, zg, zset, zbef, zlong, zcat, cond_true, cond_false, List.take, List.drop, rv1, rv2, rv3, rv4, rv5, rv6, rv7, sm0, sm1, bl0, bl1, bl2, bl3, bl4, bl5, bl6, bl7, bl8, List.nil_append, List.cons_append, List.length_cons, List.length_nil, Nat.reduceBEq, Nat.reduceAdd, Nat.reduceSub, ta, tb, tn0, tn1, tn2, tn3, tn4, tn5, tn6, tn7, tn8, tn9, tn10, tn11, tn12]
    rw [oo]
    refine ⟨fun _ => ?_, fun z => absurd (Int32.le_refl _) z⟩
    unfold bX5_readExpression_184
    dsimp only [x_int, x_lng, x_ild, x_lld, x_ald, x_ist, x_ast, x_lst, x_inc, x_ii, x_id, x_i, x_ll, x_ld, x_l, x_cmp, x_i2l, x_l2i, x_if, x_ic, x_dup, x_pop, x_dup2, x_gI, x_gL, x_gR, x_g1, x_g0, x_gP, x_pI, x_pZ, x_pL, x_pP, x_al, x_as, x_all, x_asl, x_alr, x_len, x_cpy, x_m2, x_m1, x_m2l, x_m1l, x_call, x_cv, x_ri, x_rz, x_rl, x_rv, zg, zset, zbef, zlong, zcat, cond_true, cond_false, List.take, List.drop, rv1, rv2, rv3, rv4, rv5, rv6, rv7, sm0, sm1, bl0, bl1, bl2, bl3, bl4, bl5, bl6, bl7, bl8, List.nil_append, List.cons_append, List.length_cons, List.length_nil, Nat.reduceBEq, Nat.reduceAdd, Nat.reduceSub, ta, tb, tn0, tn1, tn2, tn3, tn4, tn5, tn6, tn7, tn8, tn9, tn10, tn11, tn12]
    refine p_relF hh (by omega) c4 (fun I5 h1 _ f5 w5 => ?_)
    dsimp only [x_int, x_lng, x_ild, x_lld, x_ald, x_ist, x_ast, x_lst, x_inc, x_ii, x_id, x_i, x_ll, x_ld, x_l, x_cmp, x_i2l, x_l2i, x_if, x_ic, x_dup, x_pop, x_dup2, x_gI, x_gL, x_gR, x_g1, x_g0, x_gP, x_pI, x_pZ, x_pL, x_pP, x_al, x_as, x_all, x_asl, x_alr, x_len, x_cpy, x_m2, x_m1, x_m2l, x_m1l, x_call, x_cv, x_ri, x_rz, x_rl, x_rv, zg, zset, zbef, zlong, zcat, cond_true, cond_false, List.take, List.drop, rv1, rv2, rv3, rv4, rv5, rv6, rv7, sm0, sm1, bl0, bl1, bl2, bl3, bl4, bl5, bl6, bl7, bl8, List.nil_append, List.cons_append, List.length_cons, List.length_nil, Nat.reduceBEq, Nat.reduceAdd, Nat.reduceSub, ta, tb, tn0, tn1, tn2, tn3, tn4, tn5, tn6, tn7, tn8, tn9, tn10, tn11, tn12]
    have a5 : ∀ a b c, ¬ (a = 5 ∧ b = 0 ∧ (c = 5 ∨ c = 6 ∨ c = 7)) → ¬ (a = 24 ∧ b = 0) → I5 a b c = I a b c := fun a b c u1 u2 => (f5 a b c (by omega)).trans (al a b c u1 u2)
    exact hK I5 (fun a b c z => a5 a b c (fun u => z (by unfold dK; omega)) (fun u => z (by unfold dK; omega))) (fun c => a5 _ _ _ (by omega) (by omega)) (hm.q (fun a c q => a5 _ _ _ (by omega) (by omega))) (c4.q (fun q => f5 _ _ _ (by omega)) (f5 _ _ _ (by decide)) (f5 _ _ _ (by decide)))
  refine ⟨n_zin (i := 0) (by decide) (by decide), Or.inr rfl, ?_⟩
  refine zinv 0 (fun _ Z M => Z = [some rdR, some (.inl 1), some (.inl 0), some (.inl 0)] ∧ M = (J4, L, P)) (fun i L S h => by omega) ?_ ⟨rfl, rfl⟩
  rintro Z M ⟨rfl, rfl⟩ self
  dsimp only [x_int, x_lng, x_ild, x_lld, x_ald, x_ist, x_ast, x_lst, x_inc, x_ii, x_id, x_i, x_ll, x_ld, x_l, x_cmp, x_i2l, x_l2i, x_if, x_ic, x_dup, x_pop, x_dup2, x_gI, x_gL, x_gR, x_g1, x_g0, x_gP, x_pI, x_pZ, x_pL, x_pP, x_al, x_as, x_all, x_asl, x_alr, x_len, x_cpy, x_m2, x_m1, x_m2l, x_m1l, x_call, x_cv, x_ri, x_rz, x_rl, x_rv, zg, zset, zbef, zlong, zcat, cond_true, cond_false, List.take, List.drop, rv1, rv2, rv3, rv4, rv5, rv6, rv7, sm0, sm1, bl0, bl1, bl2, bl3, bl4, bl5, bl6, bl7, bl8, List.nil_append, List.cons_append, List.length_cons, List.length_nil, Nat.reduceBEq, Nat.reduceAdd, Nat.reduceSub, ta, tb, tn0, tn1, tn2, tn3, tn4, tn5, tn6, tn7, tn8, tn9, tn10, tn11, tn12]
  rcases c4.ft with ⟨-, j, ej⟩ | ⟨t0, -⟩
  · cases ej
  · exact ⟨fun _ => out _, fun _ => ⟨fun z => absurd z t0, fun _ => out _⟩⟩
theorem p_readExp {K : zQ} {I : zI} {L : zJ} {P : zP} {B : Nat → Nat} {n m d w i0 cnt0 : Nat} {Q : aQ} (hy : rdY B n m d w P) (hm : TKm B n m I) (h : stC B n m (.inl i0) I) (hQ : CQ I d (setL Q.1 w [] cnt0, Q.2)) (hc : cnt0 ≤ 64) (hK : ∀ I' : zI, frD d I I' → I' 9 d 12 = I 9 d 12 → TKm B n m I' → xend B n m d w Q (exA B n i0 cnt0) I' → K [] (I', L, P)) : mX5_readExpression K [rdR] (I, L, P) := by
  have hy2 := hy
  obtain ⟨⟨hE, n7, hP, d2⟩, hL, hw⟩ := hy2
  obtain ⟨m1, m2, m3⟩ := hE
  have im := h.2.2.1
  show bX5_readExpression_0 K [some (.inr (.inr (5,0))), none, none, none] [] (I, L, P)
  unfold bX5_readExpression_0
  dsimp only [x_int, x_lng, x_ild, x_lld, x_ald, x_ist, x_ast, x_lst, x_inc, x_ii, x_id, x_i, x_ll, x_ld, x_l, x_cmp, x_i2l, x_l2i, x_if, x_ic, x_dup, x_pop, x_dup2, x_gI, x_gL, x_gR, x_g1, x_g0, x_gP, x_pI, x_pZ, x_pL, x_pP, x_al, x_as, x_all, x_asl, x_alr, x_len, x_cpy, x_m2, x_m1, x_m2l, x_m1l, x_call, x_cv, x_ri, x_rz, x_rl, x_rv, zg, zset, zbef, zlong, zcat, cond_true, cond_false, List.take, List.drop, rv1, rv2, rv3, rv4, rv5, rv6, rv7, sm0, sm1, bl0, bl1, bl2, bl3, bl4, bl5, bl6, bl7, bl8, List.nil_append, List.cons_append, List.length_cons, List.length_nil, Nat.reduceBEq, Nat.reduceAdd, Nat.reduceSub, ta, tb, tn0, tn1, tn2, tn3, tn4, tn5, tn6, tn7, tn8, tn9, tn10, tn11, tn12, zk_24, zl_24]
  obtain ⟨J1, e1, y1, k1⟩ := zsI_ex I L P 5 0 5 0
  rw [e1]
  obtain ⟨J2, e2, y2, k2⟩ := zsI_ex J1 L P 5 0 6 0
  rw [e2, nar0]
  obtain ⟨J3, e3, y3, k3⟩ := zsI_ex J2 L P 24 0 0 0
  rw [e3]
  obtain ⟨J4, e4, y4, k4⟩ := zsI_ex J3 L P 5 0 7 1
  rw [e4]
  have al : ∀ a b c, ¬ (a = 5 ∧ b = 0 ∧ (c = 5 ∨ c = 6 ∨ c = 7)) → ¬ (a = 24 ∧ b = 0) → J4 a b c = I a b c := fun a b c u1 u2 => by
    rw [k4 a b c (by omega), k3 a b c (by omega), k2 a b c (by omega), k1 a b c (by omega)]
  have fD4 : frD d I J4 := fun a b c z => al a b c (fun u => z (by unfold dK; omega)) (fun u => z (by unfold dK; omega))
  have m4 : TKm B n m J4 := hm.q (fun a c q => al _ _ _ (by omega) (by omega))
  have X4 : XC B n m d w Q (i0, [], [], true, true, cnt0) J4 := by
    refine ⟨h.q (fun q => al _ _ _ (by omega) (by omega)) (al _ _ _ (by decide) (by omega)) (al _ _ _ (by decide) (by omega)), hQ.r (fun a b c q => al a b c (by omega) (by omega)), ⟨?_, fun j hj => absurd hj (Nat.not_lt_zero _)⟩, ?_, ?_, trivial, y4⟩
    · rw [k4 _ _ _ (by decide), k3 _ _ _ (by omega), k2 _ _ _ (by decide)]; exact y1
    · rw [k4 _ _ _ (by decide), k3 _ _ _ (by omega)]; exact y2
    · show J4 24 0 0 = bI false
      rw [k4 _ _ _ (by omega)]; exact y3
  have I4 : XI cnt0 (i0, [], [], true, true, cnt0) := ⟨trivial, fun _ _ k l q => (by cases q), Nat.zero_le _, by show 0 + (0 - 0) + cnt0 = cnt0; omega, hc, fun x hx => (by cases hx)⟩
  -- the end of it
  have fault : ∀ (I' : zI) (e : Nat × Nat) (zs : zL), frD d I I' → I' 9 d 12 = I 9 d 12 → TKm B n m I' → stC B n m (.inr e) I' → XF I' → exA B n i0 cnt0 = .inl e → bX5_readExpression_172 K (some rdR :: zs) [] (I', L, P) := fun I' e zs q1 q2 q3 q4 ⟨hh, oo, h72, o8, t1, t2⟩ q5 => by
    have rel : ∀ (I2 : zI), frRd I' I2 → stC B n m (.inr e) I2 → bX5_readExpression_184 K (some rdR :: zs) [] (I2, L, P) := fun I2 f2 c2 => by
      unfold bX5_readExpression_184
      dsimp only [x_int, x_lng, x_ild, x_lld, x_ald, x_ist, x_ast, x_lst, x_inc, x_ii, x_id, x_i, x_ll, x_ld, x_l, x_cmp, x_i2l, x_l2i, x_if, x_ic, x_dup, x_pop, x_dup2, x_gI, x_gL, x_gR, x_g1, x_g0, x_gP, x_pI, x_pZ, x_pL, x_pP, x_al, x_as, x_all, x_asl, x_alr, x_len, x_cpy, x_m2, x_m1, x_m2l, x_m1l, x_call, x_cv, x_ri, x_rz, x_rl, x_rv, zg, zset, zbef, zlong, zcat, cond_true, cond_false, List.take, List.drop, rv1, rv2, rv3, rv4, rv5, rv6, rv7, sm0, sm1, bl0, bl1, bl2, bl3, bl4, bl5, bl6, bl7, bl8, List.nil_append, List.cons_append, List.length_cons, List.length_nil, Nat.reduceBEq, Nat.reduceAdd, Nat.reduceSub, ta, tb, tn0, tn1, tn2, tn3, tn4, tn5, tn6, tn7, tn8, tn9, tn10, tn11, tn12]
      refine p_relF ((f2 _ _ _ (by omega)).trans t1) h72 c2 (fun I5 h1 _ f5 w5 => ?_)
      dsimp only [x_int, x_lng, x_ild, x_lld, x_ald, x_ist, x_ast, x_lst, x_inc, x_ii, x_id, x_i, x_ll, x_ld, x_l, x_cmp, x_i2l, x_l2i, x_if, x_ic, x_dup, x_pop, x_dup2, x_gI, x_gL, x_gR, x_g1, x_g0, x_gP, x_pI, x_pZ, x_pL, x_pP, x_al, x_as, x_all, x_asl, x_alr, x_len, x_cpy, x_m2, x_m1, x_m2l, x_m1l, x_call, x_cv, x_ri, x_rz, x_rl, x_rv, zg, zset, zbef, zlong, zcat, cond_true, cond_false, List.take, List.drop, rv1, rv2, rv3, rv4, rv5, rv6, rv7, sm0, sm1, bl0, bl1, bl2, bl3, bl4, bl5, bl6, bl7, bl8, List.nil_append, List.cons_append, List.length_cons, List.length_nil, Nat.reduceBEq, Nat.reduceAdd, Nat.reduceSub, ta, tb, tn0, tn1, tn2, tn3, tn4, tn5, tn6, tn7, tn8, tn9, tn10, tn11, tn12]
      refine hK I5 (fun a b c z => ?_) ?_ ((q3.r f2).q (fun a c q => f5 _ _ _ (by omega))) ?_
      · rw [f5 a b c (fun u => z (by unfold dK; omega)), f2 a b c (fun u => z (by unfold dK; omega))]; exact q1 a b c z
      · rw [f5 _ _ _ (by omega), f2 _ _ _ (by omega)]; exact q2
      · rw [q5]
        exact c2.q (fun q => f5 _ _ _ (by omega)) (f5 _ _ _ (by decide)) (f5 _ _ _ (by decide))
    unfold bX5_readExpression_172
    dsimp only [x_int, x_lng, x_ild, x_lld, x_ald, x_ist, x_ast, x_lst, x_inc, x_ii, x_id, x_i, x_ll, x_ld, x_l, x_cmp, x_i2l, x_l2i, x_if, x_ic, x_dup, x_pop, x_dup2, x_gI, x_gL, x_gR, x_g1, x_g0, x_gP, x_pI, x_pZ, x_pL, x_pP, x_al, x_as, x_all, x_asl, x_alr, x_len, x_cpy, x_m2, x_m1, x_m2l, x_m1l, x_call, x_cv, x_ri, x_rz, x_rl, x_rv, zg, zset, zbef, zlong, zcat, cond_true, cond_false, List.take, List.drop, rv1, rv2, rv3, rv4, rv5, rv6, rv7, sm0, sm1, bl0, bl1, bl2, bl3, bl4, bl5, bl6, bl7, bl8, List.nil_append, List.cons_append, List.length_cons, List.length_nil, Nat.reduceBEq, Nat.reduceAdd, Nat.reduceSub, ta, tb, tn0, tn1, tn2, tn3, tn4, tn5, tn6, tn7, tn8, tn9, tn10, tn11, tn12]
    exact ⟨fun _ => rel I' frRd.rf q4, fun _ => p_fail (e := 1) (by omega) q4 (fun I2 f2 c2 => rel I2 f2 c2)⟩
  have over : ∀ (I' : zI) (X : aX) (zs : zL), frD d I I' → I' 9 d 12 = I 9 d 12 → TKm B n m I' → XC B n m d w Q X I' → XI cnt0 X → exA B n i0 cnt0 = (if 0 < opn X.2.2.1 then .inl (1, X.1) else .inr (X.1, X.2.1 ++ (popC 1 X.2.2.1).1, X.2.2.2.2.2)) → bX5_readExpression_172 K (some rdR :: zs) [] (I', L, P) := fun I' X zs q1 q2 q3 q4 q5 q6 => by
    have l72 := q5.l72
    have xl := q4.law hw
    obtain ⟨i, cs, ws, wa, mn, cnt⟩ := X
    obtain ⟨-, -, i3, i4, i5, i6⟩ := q5
    obtain ⟨x1, x2, x3, x4, x5, x6, x7⟩ := q4
    dsimp only at l72 i3 i4 i5 i6 x1 x2 x3 x4 x5 x6 x7 xl q6
    by_cases o : 0 < opn ws
    · rw [if_pos o] at q6
      unfold bX5_readExpression_172
      dsimp only [x_int, x_lng, x_ild, x_lld, x_ald, x_ist, x_ast, x_lst, x_inc, x_ii, x_id, x_i, x_ll, x_ld, x_l, x_cmp, x_i2l, x_l2i, x_if, x_ic, x_dup, x_pop, x_dup2, x_gI, x_gL, x_gR, x_g1, x_g0, x_gP, x_pI, x_pZ, x_pL, x_pP, x_al, x_as, x_all, x_asl, x_alr, x_len, x_cpy, x_m2, x_m1, x_m2l, x_m1l, x_call, x_cv, x_ri, x_rz, x_rl, x_rv, zg, zset, zbef, zlong, zcat, cond_true, cond_false, List.take, List.drop, rv1, rv2, rv3, rv4, rv5, rv6, rv7, sm0, sm1, bl0, bl1, bl2, bl3, bl4, bl5, bl6, bl7, bl8, List.nil_append, List.cons_append, List.length_cons, List.length_nil, Nat.reduceBEq, Nat.reduceAdd, Nat.reduceSub, ta, tb, tn0, tn1, tn2, tn3, tn4, tn5, tn6, tn7, tn8, tn9, tn10, tn11, tn12]
      rw [x4]
      refine ⟨fun z => ?_, fun _ => p_fail (st := .inl i) (e := 1) (by omega) x1 (fun I2 f2 c2 => ?_)⟩
      · have z : nI (opn ws) ≤ nI 0 := z
        rw [n_le (by omega) (by omega)] at z
        omega
      · have := fault I2 (1, i) zs (fun a b c z => (f2 a b c (fun u => z (by unfold dK; omega))).trans (q1 a b c z)) ((f2 _ _ _ (by omega)).trans q2) (q3.r f2) c2 ⟨ws.length, opn ws, l72, i3, (f2 _ _ _ (by omega)).trans x3.1, (f2 _ _ _ (by omega)).trans x4⟩ q6
        -- behind the fault only what is released is left
        unfold bX5_readExpression_184
        dsimp only [x_int, x_lng, x_ild, x_lld, x_ald, x_ist, x_ast, x_lst, x_inc, x_ii, x_id, x_i, x_ll, x_ld, x_l, x_cmp, x_i2l, x_l2i, x_if, x_ic, x_dup, x_pop, x_dup2, x_gI, x_gL, x_gR, x_g1, x_g0, x_gP, x_pI, x_pZ, x_pL, x_pP, x_al, x_as, x_all, x_asl, x_alr, x_len, x_cpy, x_m2, x_m1, x_m2l, x_m1l, x_call, x_cv, x_ri, x_rz, x_rl, x_rv, zg, zset, zbef, zlong, zcat, cond_true, cond_false, List.take, List.drop, rv1, rv2, rv3, rv4, rv5, rv6, rv7, sm0, sm1, bl0, bl1, bl2, bl3, bl4, bl5, bl6, bl7, bl8, List.nil_append, List.cons_append, List.length_cons, List.length_nil, Nat.reduceBEq, Nat.reduceAdd, Nat.reduceSub, ta, tb, tn0, tn1, tn2, tn3, tn4, tn5, tn6, tn7, tn8, tn9, tn10, tn11, tn12]
        refine p_relF ((f2 _ _ _ (by omega)).trans x3.1) l72 c2 (fun I5 h1 _ f5 w5 => ?_)
        dsimp only [x_int, x_lng, x_ild, x_lld, x_ald, x_ist, x_ast, x_lst, x_inc, x_ii, x_id, x_i, x_ll, x_ld, x_l, x_cmp, x_i2l, x_l2i, x_if, x_ic, x_dup, x_pop, x_dup2, x_gI, x_gL, x_gR, x_g1, x_g0, x_gP, x_pI, x_pZ, x_pL, x_pP, x_al, x_as, x_all, x_asl, x_alr, x_len, x_cpy, x_m2, x_m1, x_m2l, x_m1l, x_call, x_cv, x_ri, x_rz, x_rl, x_rv, zg, zset, zbef, zlong, zcat, cond_true, cond_false, List.take, List.drop, rv1, rv2, rv3, rv4, rv5, rv6, rv7, sm0, sm1, bl0, bl1, bl2, bl3, bl4, bl5, bl6, bl7, bl8, List.nil_append, List.cons_append, List.length_cons, List.length_nil, Nat.reduceBEq, Nat.reduceAdd, Nat.reduceSub, ta, tb, tn0, tn1, tn2, tn3, tn4, tn5, tn6, tn7, tn8, tn9, tn10, tn11, tn12]
        refine hK I5 (fun a b c z => ?_) ?_ ((q3.r f2).q (fun a c q => f5 _ _ _ (by omega))) ?_
        · rw [f5 a b c (fun u => z (by unfold dK; omega)), f2 a b c (fun u => z (by unfold dK; omega))]; exact q1 a b c z
        · rw [f5 _ _ _ (by omega), f2 _ _ _ (by omega)]; exact q2
        · rw [q6]
          exact c2.q (fun q => f5 _ _ _ (by omega)) (f5 _ _ _ (by decide)) (f5 _ _ _ (by decide))
    · rw [if_neg o] at q6
      have ol := opn_le ws
      have pl := popC_len (r := 1) (ws := ws)
      unfold bX5_readExpression_172
      dsimp only [x_int, x_lng, x_ild, x_lld, x_ald, x_ist, x_ast, x_lst, x_inc, x_ii, x_id, x_i, x_ll, x_ld, x_l, x_cmp, x_i2l, x_l2i, x_if, x_ic, x_dup, x_pop, x_dup2, x_gI, x_gL, x_gR, x_g1, x_g0, x_gP, x_pI, x_pZ, x_pL, x_pP, x_al, x_as, x_all, x_asl, x_alr, x_len, x_cpy, x_m2, x_m1, x_m2l, x_m1l, x_call, x_cv, x_ri, x_rz, x_rl, x_rv, zg, zset, zbef, zlong, zcat, cond_true, cond_false, List.take, List.drop, rv1, rv2, rv3, rv4, rv5, rv6, rv7, sm0, sm1, bl0, bl1, bl2, bl3, bl4, bl5, bl6, bl7, bl8, List.nil_append, List.cons_append, List.length_cons, List.length_nil, Nat.reduceBEq, Nat.reduceAdd, Nat.reduceSub, ta, tb, tn0, tn1, tn2, tn3, tn4, tn5, tn6, tn7, tn8, tn9, tn10, tn11, tn12]
      rw [x4]
      refine ⟨fun _ => ?_, fun z => absurd (show nI (opn ws) ≤ nI 0 by rw [n_le (by omega) (by omega)]; omega) z⟩
      unfold bX5_readExpression_184
      dsimp only [x_int, x_lng, x_ild, x_lld, x_ald, x_ist, x_ast, x_lst, x_inc, x_ii, x_id, x_i, x_ll, x_ld, x_l, x_cmp, x_i2l, x_l2i, x_if, x_ic, x_dup, x_pop, x_dup2, x_gI, x_gL, x_gR, x_g1, x_g0, x_gP, x_pI, x_pZ, x_pL, x_pP, x_al, x_as, x_all, x_asl, x_alr, x_len, x_cpy, x_m2, x_m1, x_m2l, x_m1l, x_call, x_cv, x_ri, x_rz, x_rl, x_rv, zg, zset, zbef, zlong, zcat, cond_true, cond_false, List.take, List.drop, rv1, rv2, rv3, rv4, rv5, rv6, rv7, sm0, sm1, bl0, bl1, bl2, bl3, bl4, bl5, bl6, bl7, bl8, List.nil_append, List.cons_append, List.length_cons, List.length_nil, Nat.reduceBEq, Nat.reduceAdd, Nat.reduceSub, ta, tb, tn0, tn1, tn2, tn3, tn4, tn5, tn6, tn7, tn8, tn9, tn10, tn11, tn12]
      refine p_release (q := 3 * d + w) (r := 1) ⟨hL, by omega⟩ xl.1 xl.2.2 x3 l72 (by omega) (fun x hx => sgK_35 (i6 x hx)) (by omega) x1 (fun I5 f5 s5 l5 c5 => ?_)
      dsimp only [x_int, x_lng, x_ild, x_lld, x_ald, x_ist, x_ast, x_lst, x_inc, x_ii, x_id, x_i, x_ll, x_ld, x_l, x_cmp, x_i2l, x_l2i, x_if, x_ic, x_dup, x_pop, x_dup2, x_gI, x_gL, x_gR, x_g1, x_g0, x_gP, x_pI, x_pZ, x_pL, x_pP, x_al, x_as, x_all, x_asl, x_alr, x_len, x_cpy, x_m2, x_m1, x_m2l, x_m1l, x_call, x_cv, x_ri, x_rz, x_rl, x_rv, zg, zset, zbef, zlong, zcat, cond_true, cond_false, List.take, List.drop, rv1, rv2, rv3, rv4, rv5, rv6, rv7, sm0, sm1, bl0, bl1, bl2, bl3, bl4, bl5, bl6, bl7, bl8, List.nil_append, List.cons_append, List.length_cons, List.length_nil, Nat.reduceBEq, Nat.reduceAdd, Nat.reduceSub, ta, tb, tn0, tn1, tn2, tn3, tn4, tn5, tn6, tn7, tn8, tn9, tn10, tn11, tn12]
      have a5 : ∀ a b c, ¬ (a = 5 ∧ b = 0 ∧ c = 5) → ¬ ((a = 16 ∨ a = 2) ∧ b = 3 * d + w) → I5 a b c = I' a b c := f5
      refine hK I5 (fun a b c z => ?_) ?_ (q3.q (fun a c q => a5 _ _ _ (by omega) (by omega))) ?_
      · rw [a5 a b c (fun u => z (by unfold dK; omega)) (fun u => z (by unfold dK; omega))]; exact q1 a b c z
      · rw [a5 _ _ _ (by omega) (by omega)]; exact q2
      · rw [q6]
        refine ⟨x1.q (fun q => a5 _ _ _ (by omega) (by omega)) (a5 _ _ _ (by decide) (by omega)) (a5 _ _ _ (by decide) (by omega)), CQ_law hw x2 (fun a b c u1 u2 u3 => a5 a b c (by omega) (by omega)) ?_ ?_ l5 c5, i5, ?_⟩
        · rw [a5 _ _ _ (by omega) (by omega)]
          exact x2.1.2.2.2.2.2.2.1.2.2.trans setL_13
        · rw [List.length_append]; omega
        · rw [List.length_append]; omega
  refine ⟨n_zin (i := 0) (by decide) (by decide), Or.inr rfl, ?_⟩
  refine zmea (fun k Z M => ∃ (I' : zI) (q : Nat), M = (I', L, P) ∧ frD d I I' ∧ I' 9 d 12 = I 9 d 12 ∧ TKm B n m I' ∧ q ≤ n + 1 ∧
      ((∃ X : aX, Z = [some rdR, some (.inl (bI X.2.2.2.1)), some (.inl 0), some (.inl (nI q))] ∧ k = n + 2 - X.1 ∧ X.1 = i0 + q ∧ XC B n m d w Q X I' ∧ XI cnt0 X ∧ exA B n i0 cnt0 = xrun B n (n + 1 - X.1) X) ∨
      (∃ (X : aX) (wa : Int32), Z = [some rdR, some (.inl wa), some (.inl 1), some (.inl (nI q))] ∧ k = 0 ∧ XC B n m d w Q X I' ∧ XI cnt0 X ∧ exA B n i0 cnt0 = (if 0 < opn X.2.2.1 then .inl (1, X.1) else .inr (X.1, X.2.1 ++ (popC 1 X.2.2.1).1, X.2.2.2.2.2))) ∨
      (∃ (e : Nat × Nat) (wa : Int32), Z = [some rdR, some (.inl wa), some (.inl 0), some (.inl (nI q))] ∧ k = 0 ∧ stC B n m (.inr e) I' ∧ XF I' ∧ exA B n i0 cnt0 = .inl e))) ?_ (n + 2 - i0) ⟨J4, 0, rfl, fD4, al _ _ _ (by omega) (by omega), m4, by omega, Or.inl ⟨(i0, [], [], true, true, cnt0), rfl, rfl, rfl, X4, I4, rfl⟩⟩
  rintro k Z M ⟨I', q, rfl, q1, q2, q3, qn, hz⟩ self hself
  rcases hz with ⟨X, rfl, hk, hi, hX, hXI, hex⟩ | ⟨X, wa, rfl, hk, hX, hXI, hex⟩ | ⟨e, wa, rfl, hk, he, hF, hex⟩
  · obtain ⟨i, cs, ws, wa, mn, cnt⟩ := X
    dsimp only at hi hk hex
    have x1 := hX.1
    have x4 := hX.2.2.2.1
    have x7 := hX.2.2.2.2.2.2
    have i3 := hXI.2.2.1
    dsimp only at x1 x4 x7 i3
    have im2 := x1.2.2.1
    have kl := kd_le B n i
    have st : ∀ X', xst B n (i, cs, ws, wa, mn, cnt) = .inr (.inr X') → XI cnt0 X' ∧ X'.1 = i + 1 ∧ ¬ kd B n i = 34 := fun X' e => XI_step hXI e
    rw [show n + 1 - i = (n + 1 - (i + 1)) + 1 by omega, xrun_s] at hex
    -- behind a step
    have go : ∀ (I2 : zI) (wv : Int32), frD d I' I2 → I2 9 d 12 = I' 9 d 12 → TKm B n m I2 → xout B n m d w Q (xst B n (i, cs, ws, wa, mn, cnt)) I2 → (∀ X', xst B n (i, cs, ws, wa, mn, cnt) = .inr (.inr X') → wv = bI X'.2.2.2.1) → self [some rdR, some (.inl wv), some (.inl 0), some (.inl (nI (q + 1)))] [] (I2, L, P) := fun I2 wv f2 l2 t2 o2 hv => by
      cases ex : xst B n (i, cs, ws, wa, mn, cnt) with
      | inl e =>
        rw [ex] at o2 hex
        exact hself 0 _ _ (by omega) ⟨I2, q + 1, rfl, q1.tr f2, l2.trans q2, t2, by omega, Or.inr (Or.inr ⟨e, wv, rfl, rfl, o2.1, o2.2, hex⟩)⟩
      | inr y =>
        cases y with
        | inl r => rw [ex] at o2; exact o2.elim
        | inr X' =>
          obtain ⟨g1, g2, g3⟩ := st X' ex
          rw [ex] at o2 hex
          rw [hv X' ex]
          dsimp only at g2 hex
          refine hself (n + 2 - X'.1) _ _ (by omega) ⟨I2, q + 1, rfl, q1.tr f2, l2.trans q2, t2, by omega, Or.inl ⟨X', rfl, rfl, by omega, o2, g1, ?_⟩⟩
          rw [hex, g2]
    have wat : ∀ X', xst B n (i, cs, ws, true, mn, cnt) = .inr (.inr X') → ¬ (kd B n i = 11 ∧ mn = true) → ¬ kd B n i = 22 → X'.2.2.2.1 = false := fun X' e n1 n2 => by
      unfold xst at e
      dsimp only at e
      rw [if_pos rfl, if_neg n1, if_neg n2] at e
      by_cases c3 : 12 ≤ kd B n i ∧ kd B n i ≤ 18
      · rw [if_pos c3] at e
        by_cases c4 : cnt = 64
        · rw [if_pos c4] at e; cases e
        · rw [if_neg c4] at e; cases e; rfl
      · rw [if_neg c3] at e
        by_cases c4 : kd B n i = 20
        · rw [if_pos c4] at e
          by_cases c5 : vl B n i ≤ nI 9999
          · rw [if_pos c5] at e
            by_cases c6 : cnt = 64
            · rw [if_pos c6] at e; cases e
            · rw [if_neg c6] at e; cases e; rfl
          · rw [if_neg c5] at e; cases e
        · rw [if_neg c4] at e; cases e
    dsimp only [x_int, x_lng, x_ild, x_lld, x_ald, x_ist, x_ast, x_lst, x_inc, x_ii, x_id, x_i, x_ll, x_ld, x_l, x_cmp, x_i2l, x_l2i, x_if, x_ic, x_dup, x_pop, x_dup2, x_gI, x_gL, x_gR, x_g1, x_g0, x_gP, x_pI, x_pZ, x_pL, x_pP, x_al, x_as, x_all, x_asl, x_alr, x_len, x_cpy, x_m2, x_m1, x_m2l, x_m1l, x_call, x_cv, x_ri, x_rz, x_rl, x_rv, zg, zset, zbef, zlong, zcat, cond_true, cond_false, List.take, List.drop, rv1, rv2, rv3, rv4, rv5, rv6, rv7, sm0, sm1, bl0, bl1, bl2, bl3, bl4, bl5, bl6, bl7, bl8, List.nil_append, List.cons_append, List.length_cons, List.length_nil, Nat.reduceBEq, Nat.reduceAdd, Nat.reduceSub, ta, tb, tn0, tn1, tn2, tn3, tn4, tn5, tn6, tn7, tn8, tn9, tn10, tn11, tn12]
    rw [q3.1, x1.1]
    refine ⟨fun z => ?_, fun _ => ⟨fun _ => ⟨fun _ => ?_, fun z => absurd rfl z⟩, fun z => absurd rfl z⟩⟩
    · have z : nI (m + 1) ≤ nI q := z
      rw [n_le (by omega) (by omega)] at z
      omega
    cases wa with
    | true =>
      -- an operand is wanted
      have b103 : ¬ (kd B n i = 11 ∧ mn = true) → ¬ kd B n i = 22 → bX5_readExpression_103 K self [some rdR, some (.inl (bI true)), some (.inl 0), some (.inl (nI q))] [] (I', L, P) := fun n1 n2 => by
        unfold bX5_readExpression_103
        dsimp only [x_int, x_lng, x_ild, x_lld, x_ald, x_ist, x_ast, x_lst, x_inc, x_ii, x_id, x_i, x_ll, x_ld, x_l, x_cmp, x_i2l, x_l2i, x_if, x_ic, x_dup, x_pop, x_dup2, x_gI, x_gL, x_gR, x_g1, x_g0, x_gP, x_pI, x_pZ, x_pL, x_pP, x_al, x_as, x_all, x_asl, x_alr, x_len, x_cpy, x_m2, x_m1, x_m2l, x_m1l, x_call, x_cv, x_ri, x_rz, x_rl, x_rv, zg, zset, zbef, zlong, zcat, cond_true, cond_false, List.take, List.drop, rv1, rv2, rv3, rv4, rv5, rv6, rv7, sm0, sm1, bl0, bl1, bl2, bl3, bl4, bl5, bl6, bl7, bl8, List.nil_append, List.cons_append, List.length_cons, List.length_nil, Nat.reduceBEq, Nat.reduceAdd, Nat.reduceSub, ta, tb, tn0, tn1, tn2, tn3, tn4, tn5, tn6, tn7, tn8, tn9, tn10, tn11, tn12]
        refine ⟨fun z => absurd z (by decide), fun _ => p_readOperand hy q3 hX hXI n1 n2 (fun I2 f2 l2 t2 o2 => ?_)⟩
        unfold bX5_readExpression_166
        dsimp only [x_int, x_lng, x_ild, x_lld, x_ald, x_ist, x_ast, x_lst, x_inc, x_ii, x_id, x_i, x_ll, x_ld, x_l, x_cmp, x_i2l, x_l2i, x_if, x_ic, x_dup, x_pop, x_dup2, x_gI, x_gL, x_gR, x_g1, x_g0, x_gP, x_pI, x_pZ, x_pL, x_pP, x_al, x_as, x_all, x_asl, x_alr, x_len, x_cpy, x_m2, x_m1, x_m2l, x_m1l, x_call, x_cv, x_ri, x_rz, x_rl, x_rv, zg, zset, zbef, zlong, zcat, cond_true, cond_false, List.take, List.drop, rv1, rv2, rv3, rv4, rv5, rv6, rv7, sm0, sm1, bl0, bl1, bl2, bl3, bl4, bl5, bl6, bl7, bl8, List.nil_append, List.cons_append, List.length_cons, List.length_nil, Nat.reduceBEq, Nat.reduceAdd, Nat.reduceSub, ta, tb, tn0, tn1, tn2, tn3, tn4, tn5, tn6, tn7, tn8, tn9, tn10, tn11, tn12]
        rw [n_succ q]
        exact go I2 0 f2 l2 t2 o2 (fun X' e => by rw [wat X' e n1 n2]; rfl)
      have b80 : ¬ (kd B n i = 11 ∧ mn = true) → bX5_readExpression_80 K self [some rdR, some (.inl (bI true)), some (.inl 0), some (.inl (nI q))] [] (I', L, P) := fun n1 => by
        unfold bX5_readExpression_80
        dsimp only [x_int, x_lng, x_ild, x_lld, x_ald, x_ist, x_ast, x_lst, x_inc, x_ii, x_id, x_i, x_ll, x_ld, x_l, x_cmp, x_i2l, x_l2i, x_if, x_ic, x_dup, x_pop, x_dup2, x_gI, x_gL, x_gR, x_g1, x_g0, x_gP, x_pI, x_pZ, x_pL, x_pP, x_al, x_as, x_all, x_asl, x_alr, x_len, x_cpy, x_m2, x_m1, x_m2l, x_m1l, x_call, x_cv, x_ri, x_rz, x_rl, x_rv, zg, zset, zbef, zlong, zcat, cond_true, cond_false, List.take, List.drop, rv1, rv2, rv3, rv4, rv5, rv6, rv7, sm0, sm1, bl0, bl1, bl2, bl3, bl4, bl5, bl6, bl7, bl8, List.nil_append, List.cons_append, List.length_cons, List.length_nil, Nat.reduceBEq, Nat.reduceAdd, Nat.reduceSub, ta, tb, tn0, tn1, tn2, tn3, tn4, tn5, tn6, tn7, tn8, tn9, tn10, tn11, tn12]
        rw [x1.2.2.2.2.1]
        refine ⟨fun z => absurd z (by decide), fun _ => ⟨fun z => ?_, fun z => b103 n1 (fun u => z (by rw [u]; rfl))⟩⟩
        have z : nI (kd B n i) = nI 22 := z
        rw [n_eq (by omega) (by omega)] at z
        refine p_openBracket hy q3 hX hXI z (fun I2 f2 l2 t2 o2 => ?_)
        unfold bX5_readExpression_166
        dsimp only [x_int, x_lng, x_ild, x_lld, x_ald, x_ist, x_ast, x_lst, x_inc, x_ii, x_id, x_i, x_ll, x_ld, x_l, x_cmp, x_i2l, x_l2i, x_if, x_ic, x_dup, x_pop, x_dup2, x_gI, x_gL, x_gR, x_g1, x_g0, x_gP, x_pI, x_pZ, x_pL, x_pP, x_al, x_as, x_all, x_asl, x_alr, x_len, x_cpy, x_m2, x_m1, x_m2l, x_m1l, x_call, x_cv, x_ri, x_rz, x_rl, x_rv, zg, zset, zbef, zlong, zcat, cond_true, cond_false, List.take, List.drop, rv1, rv2, rv3, rv4, rv5, rv6, rv7, sm0, sm1, bl0, bl1, bl2, bl3, bl4, bl5, bl6, bl7, bl8, List.nil_append, List.cons_append, List.length_cons, List.length_nil, Nat.reduceBEq, Nat.reduceAdd, Nat.reduceSub, ta, tb, tn0, tn1, tn2, tn3, tn4, tn5, tn6, tn7, tn8, tn9, tn10, tn11, tn12]
        rw [n_succ q]
        refine go I2 _ f2 l2 t2 o2 (fun X' e => ?_)
        unfold xst at e
        dsimp only at e
        rw [if_pos rfl, if_neg n1, if_pos z] at e
        by_cases c3 : opn ws = 8
        · rw [if_pos c3] at e; cases e
        · rw [if_neg c3] at e; cases e; rfl
      refine ⟨fun z => absurd z (by decide), fun _ => ?_⟩
      rw [x1.2.2.2.2.1, x7]
      refine ⟨fun z => ⟨fun y => b80 (fun u => ?_), fun y => ?_⟩, fun z => b80 (fun u => z (by rw [u.1]; rfl))⟩
      · rw [u.2] at y; exact absurd y (by decide)
      · have z : nI (kd B n i) = nI 11 := z
        rw [n_eq (by omega) (by omega)] at z
        have mt : mn = true := by cases mn with
          | true => rfl
          | false => exact absurd rfl y
        refine p_readNot hy q3 hX hXI z mt (fun I2 f2 l2 t2 o2 => ?_)
        unfold bX5_readExpression_166
        dsimp only [x_int, x_lng, x_ild, x_lld, x_ald, x_ist, x_ast, x_lst, x_inc, x_ii, x_id, x_i, x_ll, x_ld, x_l, x_cmp, x_i2l, x_l2i, x_if, x_ic, x_dup, x_pop, x_dup2, x_gI, x_gL, x_gR, x_g1, x_g0, x_gP, x_pI, x_pZ, x_pL, x_pP, x_al, x_as, x_all, x_asl, x_alr, x_len, x_cpy, x_m2, x_m1, x_m2l, x_m1l, x_call, x_cv, x_ri, x_rz, x_rl, x_rv, zg, zset, zbef, zlong, zcat, cond_true, cond_false, List.take, List.drop, rv1, rv2, rv3, rv4, rv5, rv6, rv7, sm0, sm1, bl0, bl1, bl2, bl3, bl4, bl5, bl6, bl7, bl8, List.nil_append, List.cons_append, List.length_cons, List.length_nil, Nat.reduceBEq, Nat.reduceAdd, Nat.reduceSub, ta, tb, tn0, tn1, tn2, tn3, tn4, tn5, tn6, tn7, tn8, tn9, tn10, tn11, tn12]
        rw [n_succ q]
        refine go I2 _ f2 l2 t2 o2 (fun X' e => ?_)
        unfold xst at e
        dsimp only at e
        rw [if_pos rfl, if_pos ⟨z, mt⟩] at e
        by_cases c3 : cnt = 64
        · rw [if_pos c3] at e; cases e
        · rw [if_neg c3] at e; cases e; rfl
    | false =>
      have b142 : ¬ (kd B n i = 23 ∧ 0 < opn ws) → bX5_readExpression_142 K self [some rdR, some (.inl (bI false)), some (.inl 0), some (.inl (nI q))] [] (I', L, P) := fun n1 => by
        unfold bX5_readExpression_142
        dsimp only [x_int, x_lng, x_ild, x_lld, x_ald, x_ist, x_ast, x_lst, x_inc, x_ii, x_id, x_i, x_ll, x_ld, x_l, x_cmp, x_i2l, x_l2i, x_if, x_ic, x_dup, x_pop, x_dup2, x_gI, x_gL, x_gR, x_g1, x_g0, x_gP, x_pI, x_pZ, x_pL, x_pP, x_al, x_as, x_all, x_asl, x_alr, x_len, x_cpy, x_m2, x_m1, x_m2l, x_m1l, x_call, x_cv, x_ri, x_rz, x_rl, x_rv, zg, zset, zbef, zlong, zcat, cond_true, cond_false, List.take, List.drop, rv1, rv2, rv3, rv4, rv5, rv6, rv7, sm0, sm1, bl0, bl1, bl2, bl3, bl4, bl5, bl6, bl7, bl8, List.nil_append, List.cons_append, List.length_cons, List.length_nil, Nat.reduceBEq, Nat.reduceAdd, Nat.reduceSub, ta, tb, tn0, tn1, tn2, tn3, tn4, tn5, tn6, tn7, tn8, tn9, tn10, tn11, tn12]
        rw [x1.2.2.2.2.1]
        refine p_isBetween kl (fun ib => ?_) (fun nb => ?_)
        · dsimp only [x_int, x_lng, x_ild, x_lld, x_ald, x_ist, x_ast, x_lst, x_inc, x_ii, x_id, x_i, x_ll, x_ld, x_l, x_cmp, x_i2l, x_l2i, x_if, x_ic, x_dup, x_pop, x_dup2, x_gI, x_gL, x_gR, x_g1, x_g0, x_gP, x_pI, x_pZ, x_pL, x_pP, x_al, x_as, x_all, x_asl, x_alr, x_len, x_cpy, x_m2, x_m1, x_m2l, x_m1l, x_call, x_cv, x_ri, x_rz, x_rl, x_rv, zg, zset, zbef, zlong, zcat, cond_true, cond_false, List.take, List.drop, rv1, rv2, rv3, rv4, rv5, rv6, rv7, sm0, sm1, bl0, bl1, bl2, bl3, bl4, bl5, bl6, bl7, bl8, List.nil_append, List.cons_append, List.length_cons, List.length_nil, Nat.reduceBEq, Nat.reduceAdd, Nat.reduceSub, ta, tb, tn0, tn1, tn2, tn3, tn4, tn5, tn6, tn7, tn8, tn9, tn10, tn11, tn12]
          refine ⟨fun z => absurd z (by decide), fun _ => p_readSign hy q3 hX hXI ib (fun I2 f2 l2 t2 o2 => ?_)⟩
          unfold bX5_readExpression_166
          dsimp only [x_int, x_lng, x_ild, x_lld, x_ald, x_ist, x_ast, x_lst, x_inc, x_ii, x_id, x_i, x_ll, x_ld, x_l, x_cmp, x_i2l, x_l2i, x_if, x_ic, x_dup, x_pop, x_dup2, x_gI, x_gL, x_gR, x_g1, x_g0, x_gP, x_pI, x_pZ, x_pL, x_pP, x_al, x_as, x_all, x_asl, x_alr, x_len, x_cpy, x_m2, x_m1, x_m2l, x_m1l, x_call, x_cv, x_ri, x_rz, x_rl, x_rv, zg, zset, zbef, zlong, zcat, cond_true, cond_false, List.take, List.drop, rv1, rv2, rv3, rv4, rv5, rv6, rv7, sm0, sm1, bl0, bl1, bl2, bl3, bl4, bl5, bl6, bl7, bl8, List.nil_append, List.cons_append, List.length_cons, List.length_nil, Nat.reduceBEq, Nat.reduceAdd, Nat.reduceSub, ta, tb, tn0, tn1, tn2, tn3, tn4, tn5, tn6, tn7, tn8, tn9, tn10, tn11, tn12]
          rw [n_succ q]
          refine go I2 1 f2 l2 t2 o2 (fun X' e => ?_)
          unfold xst at e
          dsimp only at e
          rw [if_neg (by decide), if_neg n1, if_pos ib] at e
          by_cases c3 : rkC (kd B n i) = 4 ∧ cmT ws = true
          · rw [if_pos c3] at e; cases e
          · rw [if_neg c3] at e
            by_cases c4 : cnt = 64
            · rw [if_pos c4] at e; cases e
            · rw [if_neg c4] at e; cases e; rfl
        · dsimp only [x_int, x_lng, x_ild, x_lld, x_ald, x_ist, x_ast, x_lst, x_inc, x_ii, x_id, x_i, x_ll, x_ld, x_l, x_cmp, x_i2l, x_l2i, x_if, x_ic, x_dup, x_pop, x_dup2, x_gI, x_gL, x_gR, x_g1, x_g0, x_gP, x_pI, x_pZ, x_pL, x_pP, x_al, x_as, x_all, x_asl, x_alr, x_len, x_cpy, x_m2, x_m1, x_m2l, x_m1l, x_call, x_cv, x_ri, x_rz, x_rl, x_rv, zg, zset, zbef, zlong, zcat, cond_true, cond_false, List.take, List.drop, rv1, rv2, rv3, rv4, rv5, rv6, rv7, sm0, sm1, bl0, bl1, bl2, bl3, bl4, bl5, bl6, bl7, bl8, List.nil_append, List.cons_append, List.length_cons, List.length_nil, Nat.reduceBEq, Nat.reduceAdd, Nat.reduceSub, ta, tb, tn0, tn1, tn2, tn3, tn4, tn5, tn6, tn7, tn8, tn9, tn10, tn11, tn12]
          refine ⟨fun _ => ?_, fun z => absurd rfl z⟩
          unfold bX5_readExpression_166
          dsimp only [x_int, x_lng, x_ild, x_lld, x_ald, x_ist, x_ast, x_lst, x_inc, x_ii, x_id, x_i, x_ll, x_ld, x_l, x_cmp, x_i2l, x_l2i, x_if, x_ic, x_dup, x_pop, x_dup2, x_gI, x_gL, x_gR, x_g1, x_g0, x_gP, x_pI, x_pZ, x_pL, x_pP, x_al, x_as, x_all, x_asl, x_alr, x_len, x_cpy, x_m2, x_m1, x_m2l, x_m1l, x_call, x_cv, x_ri, x_rz, x_rl, x_rv, zg, zset, zbef, zlong, zcat, cond_true, cond_false, List.take, List.drop, rv1, rv2, rv3, rv4, rv5, rv6, rv7, sm0, sm1, bl0, bl1, bl2, bl3, bl4, bl5, bl6, bl7, bl8, List.nil_append, List.cons_append, List.length_cons, List.length_nil, Nat.reduceBEq, Nat.reduceAdd, Nat.reduceSub, ta, tb, tn0, tn1, tn2, tn3, tn4, tn5, tn6, tn7, tn8, tn9, tn10, tn11, tn12]
          rw [n_succ q]
          refine hself 0 _ _ (by omega) ⟨I', q + 1, rfl, q1, q2, q3, by omega, Or.inr (Or.inl ⟨(i, cs, ws, false, mn, cnt), _, rfl, rfl, hX, hXI, ?_⟩)⟩
          rw [hex]
          unfold xst
          dsimp only
          rw [if_neg (by decide), if_neg n1, if_neg nb]
          by_cases o : 0 < opn ws
          · rw [if_pos o, if_pos o]
          · rw [if_neg o, if_neg o]
      refine ⟨fun _ => ?_, fun z => absurd rfl z⟩
      unfold bX5_readExpression_80
      dsimp only [x_int, x_lng, x_ild, x_lld, x_ald, x_ist, x_ast, x_lst, x_inc, x_ii, x_id, x_i, x_ll, x_ld, x_l, x_cmp, x_i2l, x_l2i, x_if, x_ic, x_dup, x_pop, x_dup2, x_gI, x_gL, x_gR, x_g1, x_g0, x_gP, x_pI, x_pZ, x_pL, x_pP, x_al, x_as, x_all, x_asl, x_alr, x_len, x_cpy, x_m2, x_m1, x_m2l, x_m1l, x_call, x_cv, x_ri, x_rz, x_rl, x_rv, zg, zset, zbef, zlong, zcat, cond_true, cond_false, List.take, List.drop, rv1, rv2, rv3, rv4, rv5, rv6, rv7, sm0, sm1, bl0, bl1, bl2, bl3, bl4, bl5, bl6, bl7, bl8, List.nil_append, List.cons_append, List.length_cons, List.length_nil, Nat.reduceBEq, Nat.reduceAdd, Nat.reduceSub, ta, tb, tn0, tn1, tn2, tn3, tn4, tn5, tn6, tn7, tn8, tn9, tn10, tn11, tn12]
      refine ⟨fun _ => ?_, fun z => absurd rfl z⟩
      unfold bX5_readExpression_103
      dsimp only [x_int, x_lng, x_ild, x_lld, x_ald, x_ist, x_ast, x_lst, x_inc, x_ii, x_id, x_i, x_ll, x_ld, x_l, x_cmp, x_i2l, x_l2i, x_if, x_ic, x_dup, x_pop, x_dup2, x_gI, x_gL, x_gR, x_g1, x_g0, x_gP, x_pI, x_pZ, x_pL, x_pP, x_al, x_as, x_all, x_asl, x_alr, x_len, x_cpy, x_m2, x_m1, x_m2l, x_m1l, x_call, x_cv, x_ri, x_rz, x_rl, x_rv, zg, zset, zbef, zlong, zcat, cond_true, cond_false, List.take, List.drop, rv1, rv2, rv3, rv4, rv5, rv6, rv7, sm0, sm1, bl0, bl1, bl2, bl3, bl4, bl5, bl6, bl7, bl8, List.nil_append, List.cons_append, List.length_cons, List.length_nil, Nat.reduceBEq, Nat.reduceAdd, Nat.reduceSub, ta, tb, tn0, tn1, tn2, tn3, tn4, tn5, tn6, tn7, tn8, tn9, tn10, tn11, tn12]
      rw [x1.2.2.2.2.1, x4]
      refine ⟨fun _ => ⟨fun z => ⟨fun y => b142 (fun u => ?_), fun y => ?_⟩, fun z => b142 (fun u => z (by rw [u.1]; rfl))⟩, fun z => absurd rfl z⟩
      · have y : nI (opn ws) ≤ nI 0 := y
        rw [n_le (by omega) (by omega)] at y
        omega
      · have z : nI (kd B n i) = nI 23 := z
        rw [n_eq (by omega) (by omega)] at z
        have y : ¬ nI (opn ws) ≤ nI 0 := y
        rw [n_le (by omega) (by omega)] at y
        refine p_closeBracket hy q3 hX hXI z (by omega) (fun I2 f2 l2 t2 o2 => ?_)
        unfold bX5_readExpression_166
        dsimp only [x_int, x_lng, x_ild, x_lld, x_ald, x_ist, x_ast, x_lst, x_inc, x_ii, x_id, x_i, x_ll, x_ld, x_l, x_cmp, x_i2l, x_l2i, x_if, x_ic, x_dup, x_pop, x_dup2, x_gI, x_gL, x_gR, x_g1, x_g0, x_gP, x_pI, x_pZ, x_pL, x_pP, x_al, x_as, x_all, x_asl, x_alr, x_len, x_cpy, x_m2, x_m1, x_m2l, x_m1l, x_call, x_cv, x_ri, x_rz, x_rl, x_rv, zg, zset, zbef, zlong, zcat, cond_true, cond_false, List.take, List.drop, rv1, rv2, rv3, rv4, rv5, rv6, rv7, sm0, sm1, bl0, bl1, bl2, bl3, bl4, bl5, bl6, bl7, bl8, List.nil_append, List.cons_append, List.length_cons, List.length_nil, Nat.reduceBEq, Nat.reduceAdd, Nat.reduceSub, ta, tb, tn0, tn1, tn2, tn3, tn4, tn5, tn6, tn7, tn8, tn9, tn10, tn11, tn12]
        rw [n_succ q]
        refine go I2 _ f2 l2 t2 o2 (fun X' e => ?_)
        unfold xst at e
        dsimp only at e
        rw [if_neg (by decide), if_pos ⟨z, by omega⟩] at e
        cases e; rfl
  · dsimp only [x_int, x_lng, x_ild, x_lld, x_ald, x_ist, x_ast, x_lst, x_inc, x_ii, x_id, x_i, x_ll, x_ld, x_l, x_cmp, x_i2l, x_l2i, x_if, x_ic, x_dup, x_pop, x_dup2, x_gI, x_gL, x_gR, x_g1, x_g0, x_gP, x_pI, x_pZ, x_pL, x_pP, x_al, x_as, x_all, x_asl, x_alr, x_len, x_cpy, x_m2, x_m1, x_m2l, x_m1l, x_call, x_cv, x_ri, x_rz, x_rl, x_rv, zg, zset, zbef, zlong, zcat, cond_true, cond_false, List.take, List.drop, rv1, rv2, rv3, rv4, rv5, rv6, rv7, sm0, sm1, bl0, bl1, bl2, bl3, bl4, bl5, bl6, bl7, bl8, List.nil_append, List.cons_append, List.length_cons, List.length_nil, Nat.reduceBEq, Nat.reduceAdd, Nat.reduceSub, ta, tb, tn0, tn1, tn2, tn3, tn4, tn5, tn6, tn7, tn8, tn9, tn10, tn11, tn12]
    have x1 := hX.1
    rw [x1.1]
    exact ⟨fun _ => over I' X _ q1 q2 q3 hX hXI hex, fun _ => ⟨fun _ => ⟨fun z => absurd z (by decide), fun _ => over I' X _ q1 q2 q3 hX hXI hex⟩, fun z => absurd rfl z⟩⟩
  · dsimp only [x_int, x_lng, x_ild, x_lld, x_ald, x_ist, x_ast, x_lst, x_inc, x_ii, x_id, x_i, x_ll, x_ld, x_l, x_cmp, x_i2l, x_l2i, x_if, x_ic, x_dup, x_pop, x_dup2, x_gI, x_gL, x_gR, x_g1, x_g0, x_gP, x_pI, x_pZ, x_pL, x_pP, x_al, x_as, x_all, x_asl, x_alr, x_len, x_cpy, x_m2, x_m1, x_m2l, x_m1l, x_call, x_cv, x_ri, x_rz, x_rl, x_rv, zg, zset, zbef, zlong, zcat, cond_true, cond_false, List.take, List.drop, rv1, rv2, rv3, rv4, rv5, rv6, rv7, sm0, sm1, bl0, bl1, bl2, bl3, bl4, bl5, bl6, bl7, bl8, List.nil_append, List.cons_append, List.length_cons, List.length_nil, Nat.reduceBEq, Nat.reduceAdd, Nat.reduceSub, ta, tb, tn0, tn1, tn2, tn3, tn4, tn5, tn6, tn7, tn8, tn9, tn10, tn11, tn12]
    rcases he.ft with ⟨-, j, ej⟩ | ⟨t0, -⟩
    · cases ej
    · exact ⟨fun _ => fault I' e _ q1 q2 q3 he hF hex, fun _ => ⟨fun z => absurd z t0, fun _ => fault I' e _ q1 q2 q3 he hF hex⟩⟩
