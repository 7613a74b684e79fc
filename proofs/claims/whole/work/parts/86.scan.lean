theorem sgB_lt {B : Nat → Nat} {n p : Nat} {I : zI} {P : zP} (h : SCx B n I P) : sgB B n p < 256 := by
  unfold sgB
  split
  · rename_i q; exact (h.2.2.2 p q).2
  · omega
theorem sgB_in {B : Nat → Nat} {n p : Nat} (h : p < n) : sgB B n p = B p := if_pos h
theorem p_cutWord {K : zQ} {I : zI} {L : zJ} {P : zP} {B : Nat → Nat} {n s : Nat} (h : SCx B n I P) (hw : RCw I) (hs : s < n) (ha : I 7 0 6 = nI s) (hv : I 7 0 11 = 0) (hK : ∀ I' : zI, fr7 I I' → I' 7 0 6 = nI (rn (fun q => isL (B q)) n s) → I' 7 0 9 = nI (if rn (fun q => isL (B q)) n s - s ≤ 6 then kow (pkC B s (rn (fun q => isL (B q)) n s - s)) 19 else 35) → I' 7 0 10 = I 7 0 10 → I' 7 0 11 = pkC B s (rn (fun q => isL (B q)) n s - s) → K [] (I', L, P)) : mX7_cutWord K [scR] (I, L, P) := by
  have n7 := h.2.2.1
  show bX7_cutWord_2 K [some scR, some (.inl 0)] [] (I, L, P)
  refine zmea (fun k Z M => ∃ (I' : zI) (j : Nat), Z = [some scR, some (.inl (nI j))] ∧ M = (I', L, P) ∧ k = n - (s + j) ∧ s + j ≤ n ∧ fr7 I I' ∧ I' 7 0 6 = nI (s + j) ∧ I' 7 0 10 = I 7 0 10 ∧ I' 7 0 11 = pkC B s j ∧ rn (fun q => isL (B q)) n s = rn (fun q => isL (B q)) n (s + j)) ?_ (n - s) ⟨I, 0, rfl, rfl, rfl, by omega, fun _ _ _ _ => rfl, ha, rfl, hv, rfl⟩
  rintro k Z M ⟨I', j, rfl, rfl, hk, hj, f1, a1, a2, a3, a4⟩ self hself
  have h' := h.z f1
  have out : rn (fun q => isL (B q)) n (s + j) = s + j → bX7_cutWord_64 K [some scR, some (.inl (nI j))] [] (I', L, P) := fun e => by
    rw [e] at a4
    have ej : rn (fun q => isL (B q)) n s - s = j := by omega
    rw [ej, a4] at hK
    unfold bX7_cutWord_64
    dsimp only [x_int, x_lng, x_ild, x_lld, x_ald, x_ist, x_ast, x_lst, x_inc, x_ii, x_id, x_i, x_ll, x_ld, x_l, x_cmp, x_i2l, x_l2i, x_if, x_ic, x_dup, x_pop, x_dup2, x_gI, x_gL, x_gR, x_g1, x_g0, x_gP, x_pI, x_pZ, x_pL, x_pP, x_al, x_as, x_all, x_asl, x_alr, x_len, x_cpy, x_m2, x_m1, x_m2l, x_m1l, x_call, x_cv, x_ri, x_rz, x_rl, x_rv, zg, zset, zbef, zlong, zcat, cond_true, cond_false, List.take, List.drop, rv1, rv2, rv3, rv4, rv5, rv6, rv7, sm0, sm1, bl0, bl1, bl2, bl3, bl4, bl5, bl6, bl7, bl8, List.nil_append, List.cons_append, List.length_cons, List.length_nil, Nat.reduceBEq, Nat.reduceAdd, Nat.reduceSub, ta, tb, tn0, tn1, tn2, tn3, tn4, tn5, tn6, tn7, tn8, tn9, tn10, tn11, tn12, bX7_cutWord_84]
    have fin : ∀ v : Nat, v = (if j ≤ 6 then kow (pkC B s j) 19 else 35) → K [] (zsI (I', L, P) 7 0 9 (nI v)) := fun v hv => by
      obtain ⟨J, e1, x1, k1⟩ := zsI_ex I' L P 7 0 9 (nI v)
      rw [e1]
      refine hK J (fun a b c q => (k1 a b c (by omega)).trans (f1 a b c q)) ((k1 _ _ _ (by decide)).trans a1) (x1.trans (by rw [hv])) ((k1 _ _ _ (by decide)).trans a2) ((k1 _ _ _ (by decide)).trans a3)
    rw [a3]
    refine ⟨fun q => p_kindOfWord (fun i hi => (f1 27 0 i (by omega)).trans (hw i hi)) ?_, fun q => ?_⟩
    · have q : nI j ≤ nI 6 := q
      rw [n_le (by omega) (by omega)] at q
      dsimp only [x_int, x_lng, x_ild, x_lld, x_ald, x_ist, x_ast, x_lst, x_inc, x_ii, x_id, x_i, x_ll, x_ld, x_l, x_cmp, x_i2l, x_l2i, x_if, x_ic, x_dup, x_pop, x_dup2, x_gI, x_gL, x_gR, x_g1, x_g0, x_gP, x_pI, x_pZ, x_pL, x_pP, x_al, x_as, x_all, x_asl, x_alr, x_len, x_cpy, x_m2, x_m1, x_m2l, x_m1l, x_call, x_cv, x_ri, x_rz, x_rl, x_rv, zg, zset, zbef, zlong, zcat, cond_true, cond_false, List.take, List.drop, rv1, rv2, rv3, rv4, rv5, rv6, rv7, sm0, sm1, bl0, bl1, bl2, bl3, bl4, bl5, bl6, bl7, bl8, List.nil_append, List.cons_append, List.length_cons, List.length_nil, Nat.reduceBEq, Nat.reduceAdd, Nat.reduceSub, ta, tb, tn0, tn1, tn2, tn3, tn4, tn5, tn6, tn7, tn8, tn9, tn10, tn11, tn12, bX7_cutWord_84]
      exact fin _ (by rw [if_pos q])
    · have q : ¬ nI j ≤ nI 6 := q
      rw [n_le (by omega) (by omega)] at q
      exact fin 35 (by rw [if_neg q])
  dsimp only [x_int, x_lng, x_ild, x_lld, x_ald, x_ist, x_ast, x_lst, x_inc, x_ii, x_id, x_i, x_ll, x_ld, x_l, x_cmp, x_i2l, x_l2i, x_if, x_ic, x_dup, x_pop, x_dup2, x_gI, x_gL, x_gR, x_g1, x_g0, x_gP, x_pI, x_pZ, x_pL, x_pP, x_al, x_as, x_all, x_asl, x_alr, x_len, x_cpy, x_m2, x_m1, x_m2l, x_m1l, x_call, x_cv, x_ri, x_rz, x_rl, x_rv, zg, zset, zbef, zlong, zcat, cond_true, cond_false, List.take, List.drop, rv1, rv2, rv3, rv4, rv5, rv6, rv7, sm0, sm1, bl0, bl1, bl2, bl3, bl4, bl5, bl6, bl7, bl8, List.nil_append, List.cons_append, List.length_cons, List.length_nil, Nat.reduceBEq, Nat.reduceAdd, Nat.reduceSub, ta, tb, tn0, tn1, tn2, tn3, tn4, tn5, tn6, tn7, tn8, tn9, tn10, tn11, tn12]
  rw [a1, h'.1]
  refine ⟨fun q => out ?_, fun q => p_signAt h' (by omega) ?_⟩
  · have q : nI n ≤ nI (s + j) := q
    rw [n_le (by omega) (by omega)] at q
    exact rn_stop (by omega)
  · have q : ¬ nI n ≤ nI (s + j) := q
    rw [n_le (by omega) (by omega)] at q
    have q : s + j < n := by omega
    have b256 := (h'.2.2.2 (s + j) q).2
    dsimp only [x_int, x_lng, x_ild, x_lld, x_ald, x_ist, x_ast, x_lst, x_inc, x_ii, x_id, x_i, x_ll, x_ld, x_l, x_cmp, x_i2l, x_l2i, x_if, x_ic, x_dup, x_pop, x_dup2, x_gI, x_gL, x_gR, x_g1, x_g0, x_gP, x_pI, x_pZ, x_pL, x_pP, x_al, x_as, x_all, x_asl, x_alr, x_len, x_cpy, x_m2, x_m1, x_m2l, x_m1l, x_call, x_cv, x_ri, x_rz, x_rl, x_rv, zg, zset, zbef, zlong, zcat, cond_true, cond_false, List.take, List.drop, rv1, rv2, rv3, rv4, rv5, rv6, rv7, sm0, sm1, bl0, bl1, bl2, bl3, bl4, bl5, bl6, bl7, bl8, List.nil_append, List.cons_append, List.length_cons, List.length_nil, Nat.reduceBEq, Nat.reduceAdd, Nat.reduceSub, ta, tb, tn0, tn1, tn2, tn3, tn4, tn5, tn6, tn7, tn8, tn9, tn10, tn11, tn12]
    rw [sgB_in q]
    refine p_isLetter (by omega) ?_
    dsimp only [x_int, x_lng, x_ild, x_lld, x_ald, x_ist, x_ast, x_lst, x_inc, x_ii, x_id, x_i, x_ll, x_ld, x_l, x_cmp, x_i2l, x_l2i, x_if, x_ic, x_dup, x_pop, x_dup2, x_gI, x_gL, x_gR, x_g1, x_g0, x_gP, x_pI, x_pZ, x_pL, x_pP, x_al, x_as, x_all, x_asl, x_alr, x_len, x_cpy, x_m2, x_m1, x_m2l, x_m1l, x_call, x_cv, x_ri, x_rz, x_rl, x_rv, zg, zset, zbef, zlong, zcat, cond_true, cond_false, List.take, List.drop, rv1, rv2, rv3, rv4, rv5, rv6, rv7, sm0, sm1, bl0, bl1, bl2, bl3, bl4, bl5, bl6, bl7, bl8, List.nil_append, List.cons_append, List.length_cons, List.length_nil, Nat.reduceBEq, Nat.reduceAdd, Nat.reduceSub, ta, tb, tn0, tn1, tn2, tn3, tn4, tn5, tn6, tn7, tn8, tn9, tn10, tn11, tn12]
    cases e : isL (B (s + j)) with
    | false => exact ⟨fun _ => out (rn_stop (fun z => by rw [e] at z; exact absurd z.2 (by decide))), fun z => absurd rfl z⟩
    | true =>
      refine ⟨fun z => absurd z (by decide), fun _ => ?_⟩
      rw [a1, a3]
      refine p_signAt h' (by omega) ?_
      dsimp only [x_int, x_lng, x_ild, x_lld, x_ald, x_ist, x_ast, x_lst, x_inc, x_ii, x_id, x_i, x_ll, x_ld, x_l, x_cmp, x_i2l, x_l2i, x_if, x_ic, x_dup, x_pop, x_dup2, x_gI, x_gL, x_gR, x_g1, x_g0, x_gP, x_pI, x_pZ, x_pL, x_pP, x_al, x_as, x_all, x_asl, x_alr, x_len, x_cpy, x_m2, x_m1, x_m2l, x_m1l, x_call, x_cv, x_ri, x_rz, x_rl, x_rv, zg, zset, zbef, zlong, zcat, cond_true, cond_false, List.take, List.drop, rv1, rv2, rv3, rv4, rv5, rv6, rv7, sm0, sm1, bl0, bl1, bl2, bl3, bl4, bl5, bl6, bl7, bl8, List.nil_append, List.cons_append, List.length_cons, List.length_nil, Nat.reduceBEq, Nat.reduceAdd, Nat.reduceSub, ta, tb, tn0, tn1, tn2, tn3, tn4, tn5, tn6, tn7, tn8, tn9, tn10, tn11, tn12]
      rw [sgB_in q]
      refine p_letterBits ?_
      dsimp only [x_int, x_lng, x_ild, x_lld, x_ald, x_ist, x_ast, x_lst, x_inc, x_ii, x_id, x_i, x_ll, x_ld, x_l, x_cmp, x_i2l, x_l2i, x_if, x_ic, x_dup, x_pop, x_dup2, x_gI, x_gL, x_gR, x_g1, x_g0, x_gP, x_pI, x_pZ, x_pL, x_pP, x_al, x_as, x_all, x_asl, x_alr, x_len, x_cpy, x_m2, x_m1, x_m2l, x_m1l, x_call, x_cv, x_ri, x_rz, x_rl, x_rv, zg, zset, zbef, zlong, zcat, cond_true, cond_false, List.take, List.drop, rv1, rv2, rv3, rv4, rv5, rv6, rv7, sm0, sm1, bl0, bl1, bl2, bl3, bl4, bl5, bl6, bl7, bl8, List.nil_append, List.cons_append, List.length_cons, List.length_nil, Nat.reduceBEq, Nat.reduceAdd, Nat.reduceSub, ta, tb, tn0, tn1, tn2, tn3, tn4, tn5, tn6, tn7, tn8, tn9, tn10, tn11, tn12]
      obtain ⟨J1, e1, x1, k1⟩ := zsI_ex I' L P 7 0 11 (pkC B s j ||| lb (B (s + j)) j)
      rw [e1]
      dsimp only
      rw [k1 7 0 6 (by decide), a1, n_succ, n_succ]
      obtain ⟨J2, e2, x2, k2⟩ := zsI_ex J1 L P 7 0 6 (nI (s + j + 1))
      rw [e2]
      refine hself (n - (s + (j + 1))) _ _ (by omega) ⟨J2, j + 1, rfl, rfl, rfl, by omega, fun a b c z => ((k2 a b c (by omega)).trans (k1 a b c (by omega))).trans (f1 a b c z), x2, ?_, ?_, ?_⟩
      · rw [k2 _ _ _ (by decide), k1 _ _ _ (by decide)]; exact a2
      · rw [k2 _ _ _ (by decide), x1]; rfl
      · rw [a4, rn_go q e]; rfl
theorem nuC_le (B : Nat → Nat) (s : Nat) : ∀ k, nuC B s k ≤ 1000000 := by
  intro k
  cases k with
  | zero => exact Nat.zero_le _
  | succ k =>
    have st : nuC B s (k + 1) = if nuC B s k * 10 + (B (s + k) - 48) < 1000000 then nuC B s k * 10 + (B (s + k) - 48) else 1000000 := rfl
    by_cases z : nuC B s k * 10 + (B (s + k) - 48) < 1000000
    · rw [st, if_pos z]; omega
    · rw [st, if_neg z]; omega
theorem p_cutNumber {K : zQ} {I : zI} {L : zJ} {P : zP} {B : Nat → Nat} {n s : Nat} (h : SCx B n I P) (hs : s < n) (ha : I 7 0 6 = nI s) (hv : I 7 0 11 = 0) (hK : ∀ I' : zI, fr7 I I' → I' 7 0 6 = nI (rn (fun q => isD (B q)) n s) → I' 7 0 9 = 20 → I' 7 0 10 = I 7 0 10 → I' 7 0 11 = nI (nuC B s (rn (fun q => isD (B q)) n s - s)) → K [] (I', L, P)) : mX7_cutNumber K [scR] (I, L, P) := by
  have n7 := h.2.2.1
  show bX7_cutNumber_0 K [some (.inr (.inr (7,0)))] [] (I, L, P)
  unfold bX7_cutNumber_0
  dsimp only [x_int, x_lng, x_ild, x_lld, x_ald, x_ist, x_ast, x_lst, x_inc, x_ii, x_id, x_i, x_ll, x_ld, x_l, x_cmp, x_i2l, x_l2i, x_if, x_ic, x_dup, x_pop, x_dup2, x_gI, x_gL, x_gR, x_g1, x_g0, x_gP, x_pI, x_pZ, x_pL, x_pP, x_al, x_as, x_all, x_asl, x_alr, x_len, x_cpy, x_m2, x_m1, x_m2l, x_m1l, x_call, x_cv, x_ri, x_rz, x_rl, x_rv, zg, zset, zbef, zlong, zcat, cond_true, cond_false, List.take, List.drop, rv1, rv2, rv3, rv4, rv5, rv6, rv7, sm0, sm1, bl0, bl1, bl2, bl3, bl4, bl5, bl6, bl7, bl8, List.nil_append, List.cons_append, List.length_cons, List.length_nil, Nat.reduceBEq, Nat.reduceAdd, Nat.reduceSub, ta, tb, tn0, tn1, tn2, tn3, tn4, tn5, tn6, tn7, tn8, tn9, tn10, tn11, tn12]
  obtain ⟨J0, e0, x0, k0⟩ := zsI_ex I L P 7 0 9 20
  rw [e0]
  refine zmea (fun k Z M => ∃ (I' : zI) (j : Nat), Z = [some scR] ∧ M = (I', L, P) ∧ k = n - (s + j) ∧ s + j ≤ n ∧ fr7 I I' ∧ I' 7 0 6 = nI (s + j) ∧ I' 7 0 10 = I 7 0 10 ∧ I' 7 0 11 = nI (nuC B s j) ∧ I' 7 0 9 = 20 ∧ rn (fun q => isD (B q)) n s = rn (fun q => isD (B q)) n (s + j)) ?_ (n - s) ⟨J0, 0, rfl, rfl, rfl, by omega, fun a b c z => k0 a b c (by omega), (k0 _ _ _ (by decide)).trans ha, k0 _ _ _ (by decide), (k0 _ _ _ (by decide)).trans hv, x0, rfl⟩
  rintro k Z M ⟨I', j, rfl, rfl, hk, hj, f1, a1, a2, a3, a5, a4⟩ self hself
  have h' := h.z f1
  have out : rn (fun q => isD (B q)) n (s + j) = s + j → K [] (I', L, P) := fun e => by
    rw [e] at a4
    have ej : rn (fun q => isD (B q)) n s - s = j := by omega
    rw [ej, a4] at hK
    exact hK I' f1 a1 a5 a2 a3
  dsimp only [x_int, x_lng, x_ild, x_lld, x_ald, x_ist, x_ast, x_lst, x_inc, x_ii, x_id, x_i, x_ll, x_ld, x_l, x_cmp, x_i2l, x_l2i, x_if, x_ic, x_dup, x_pop, x_dup2, x_gI, x_gL, x_gR, x_g1, x_g0, x_gP, x_pI, x_pZ, x_pL, x_pP, x_al, x_as, x_all, x_asl, x_alr, x_len, x_cpy, x_m2, x_m1, x_m2l, x_m1l, x_call, x_cv, x_ri, x_rz, x_rl, x_rv, zg, zset, zbef, zlong, zcat, cond_true, cond_false, List.take, List.drop, rv1, rv2, rv3, rv4, rv5, rv6, rv7, sm0, sm1, bl0, bl1, bl2, bl3, bl4, bl5, bl6, bl7, bl8, List.nil_append, List.cons_append, List.length_cons, List.length_nil, Nat.reduceBEq, Nat.reduceAdd, Nat.reduceSub, ta, tb, tn0, tn1, tn2, tn3, tn4, tn5, tn6, tn7, tn8, tn9, tn10, tn11, tn12, bX7_cutNumber_72]
  rw [a1, h'.1]
  refine ⟨fun q => out ?_, fun q => p_signAt h' (by omega) ?_⟩
  · have q : nI n ≤ nI (s + j) := q
    rw [n_le (by omega) (by omega)] at q
    exact rn_stop (by omega)
  · have q : ¬ nI n ≤ nI (s + j) := q
    rw [n_le (by omega) (by omega)] at q
    have q : s + j < n := by omega
    have b256 := (h'.2.2.2 (s + j) q).2
    dsimp only [x_int, x_lng, x_ild, x_lld, x_ald, x_ist, x_ast, x_lst, x_inc, x_ii, x_id, x_i, x_ll, x_ld, x_l, x_cmp, x_i2l, x_l2i, x_if, x_ic, x_dup, x_pop, x_dup2, x_gI, x_gL, x_gR, x_g1, x_g0, x_gP, x_pI, x_pZ, x_pL, x_pP, x_al, x_as, x_all, x_asl, x_alr, x_len, x_cpy, x_m2, x_m1, x_m2l, x_m1l, x_call, x_cv, x_ri, x_rz, x_rl, x_rv, zg, zset, zbef, zlong, zcat, cond_true, cond_false, List.take, List.drop, rv1, rv2, rv3, rv4, rv5, rv6, rv7, sm0, sm1, bl0, bl1, bl2, bl3, bl4, bl5, bl6, bl7, bl8, List.nil_append, List.cons_append, List.length_cons, List.length_nil, Nat.reduceBEq, Nat.reduceAdd, Nat.reduceSub, ta, tb, tn0, tn1, tn2, tn3, tn4, tn5, tn6, tn7, tn8, tn9, tn10, tn11, tn12, bX7_cutNumber_72]
    rw [sgB_in q]
    refine p_isDigit7 (by omega) ?_
    dsimp only [x_int, x_lng, x_ild, x_lld, x_ald, x_ist, x_ast, x_lst, x_inc, x_ii, x_id, x_i, x_ll, x_ld, x_l, x_cmp, x_i2l, x_l2i, x_if, x_ic, x_dup, x_pop, x_dup2, x_gI, x_gL, x_gR, x_g1, x_g0, x_gP, x_pI, x_pZ, x_pL, x_pP, x_al, x_as, x_all, x_asl, x_alr, x_len, x_cpy, x_m2, x_m1, x_m2l, x_m1l, x_call, x_cv, x_ri, x_rz, x_rl, x_rv, zg, zset, zbef, zlong, zcat, cond_true, cond_false, List.take, List.drop, rv1, rv2, rv3, rv4, rv5, rv6, rv7, sm0, sm1, bl0, bl1, bl2, bl3, bl4, bl5, bl6, bl7, bl8, List.nil_append, List.cons_append, List.length_cons, List.length_nil, Nat.reduceBEq, Nat.reduceAdd, Nat.reduceSub, ta, tb, tn0, tn1, tn2, tn3, tn4, tn5, tn6, tn7, tn8, tn9, tn10, tn11, tn12, bX7_cutNumber_72]
    cases e : isD (B (s + j)) with
    | false => exact ⟨fun _ => out (rn_stop (fun z => by rw [e] at z; exact absurd z.2 (by decide))), fun z => absurd rfl z⟩
    | true =>
      refine ⟨fun z => absurd z (by decide), fun _ => ?_⟩
      rw [a1, a3]
      refine p_signAt h' (by omega) ?_
      dsimp only [x_int, x_lng, x_ild, x_lld, x_ald, x_ist, x_ast, x_lst, x_inc, x_ii, x_id, x_i, x_ll, x_ld, x_l, x_cmp, x_i2l, x_l2i, x_if, x_ic, x_dup, x_pop, x_dup2, x_gI, x_gL, x_gR, x_g1, x_g0, x_gP, x_pI, x_pZ, x_pL, x_pP, x_al, x_as, x_all, x_asl, x_alr, x_len, x_cpy, x_m2, x_m1, x_m2l, x_m1l, x_call, x_cv, x_ri, x_rz, x_rl, x_rv, zg, zset, zbef, zlong, zcat, cond_true, cond_false, List.take, List.drop, rv1, rv2, rv3, rv4, rv5, rv6, rv7, sm0, sm1, bl0, bl1, bl2, bl3, bl4, bl5, bl6, bl7, bl8, List.nil_append, List.cons_append, List.length_cons, List.length_nil, Nat.reduceBEq, Nat.reduceAdd, Nat.reduceSub, ta, tb, tn0, tn1, tn2, tn3, tn4, tn5, tn6, tn7, tn8, tn9, tn10, tn11, tn12]
      rw [sgB_in q]
      have d9 : 48 ≤ B (s + j) ∧ B (s + j) ≤ 57 := of_decide_eq_true e
      have nl := nuC_le B s j
      have ev : nI (nuC B s j) * 10 + nI (B (s + j)) - 48 = nI (nuC B s j * 10 + (B (s + j) - 48)) := by
        rw [show (10 : Int32) = nI 10 from rfl, show (48 : Int32) = nI 48 from rfl, n_mul, n_add, pk_sub (by omega)]
        congr 1
        omega
      rw [ev]
      have ew : (if nI (nuC B s j * 10 + (B (s + j) - 48)) < 1000000 then nI (nuC B s j * 10 + (B (s + j) - 48)) else 1000000) = nI (nuC B s (j + 1)) := by
        rw [show (1000000 : Int32) = nI 1000000 from rfl]
        have st : nuC B s (j + 1) = if nuC B s j * 10 + (B (s + j) - 48) < 1000000 then nuC B s j * 10 + (B (s + j) - 48) else 1000000 := rfl
        by_cases z : nuC B s j * 10 + (B (s + j) - 48) < 1000000
        · rw [if_pos z] at st
          rw [if_pos (show nI (nuC B s j * 10 + (B (s + j) - 48)) < nI 1000000 by rw [n_lt (by omega) (by omega)]; exact z), st]
        · rw [if_neg z] at st
          rw [if_neg (show ¬ nI (nuC B s j * 10 + (B (s + j) - 48)) < nI 1000000 by rw [n_lt (by omega) (by omega)]; exact z), st]
      rw [ew]
      obtain ⟨J1, e1, x1, k1⟩ := zsI_ex I' L P 7 0 11 (nI (nuC B s (j + 1)))
      rw [e1]
      dsimp only
      rw [k1 7 0 6 (by decide), a1, n_succ]
      obtain ⟨J2, e2, x2, k2⟩ := zsI_ex J1 L P 7 0 6 (nI (s + j + 1))
      rw [e2]
      refine hself (n - (s + (j + 1))) _ _ (by omega) ⟨J2, j + 1, rfl, rfl, rfl, by omega, fun a b c z => ((k2 a b c (by omega)).trans (k1 a b c (by omega))).trans (f1 a b c z), x2, ?_, ?_, ?_, ?_⟩
      · rw [k2 _ _ _ (by decide), k1 _ _ _ (by decide)]; exact a2
      · rw [k2 _ _ _ (by decide), x1]
      · rw [k2 _ _ _ (by decide), k1 _ _ _ (by decide)]; exact a5
      · rw [a4, rn_go q e]; rfl
theorem p_cutSign {K : zQ} {I : zI} {L : zJ} {P : zP} {B : Nat → Nat} {n s : Nat} (h : SCx B n I P) (hs : s < n) (ha : I 7 0 6 = nI s) (hK : ∀ (I' : zI) (κ nx : Nat), fr7 I I' → I' 7 0 6 = nI nx → I' 7 0 9 = nI κ → I' 7 0 10 = I 7 0 10 → I' 7 0 11 = I 7 0 11 → (κ, nx) = (if B s = 60 ∧ sgB B n (s + 1) = 62 then (31, s + 2) else if (B s = 60 ∨ B s = 62) ∧ sgB B n (s + 1) = 61 then ((if B s = 60 then 29 else 32), s + 2) else (kos (B s), s + 1)) → K [] (I', L, P)) : mX7_cutSign K [scR] (I, L, P) := by
  have n7 := h.2.2.1
  have b256 := (h.2.2.2 s hs).2
  have d256 := sgB_lt (p := s + 1) h
  show bX7_cutSign_0 K [some (.inr (.inr (7,0))), none, none] [] (I, L, P)
  unfold bX7_cutSign_0
  dsimp only [x_int, x_lng, x_ild, x_lld, x_ald, x_ist, x_ast, x_lst, x_inc, x_ii, x_id, x_i, x_ll, x_ld, x_l, x_cmp, x_i2l, x_l2i, x_if, x_ic, x_dup, x_pop, x_dup2, x_gI, x_gL, x_gR, x_g1, x_g0, x_gP, x_pI, x_pZ, x_pL, x_pP, x_al, x_as, x_all, x_asl, x_alr, x_len, x_cpy, x_m2, x_m1, x_m2l, x_m1l, x_call, x_cv, x_ri, x_rz, x_rl, x_rv, zg, zset, zbef, zlong, zcat, cond_true, cond_false, List.take, List.drop, rv1, rv2, rv3, rv4, rv5, rv6, rv7, sm0, sm1, bl0, bl1, bl2, bl3, bl4, bl5, bl6, bl7, bl8, List.nil_append, List.cons_append, List.length_cons, List.length_nil, Nat.reduceBEq, Nat.reduceAdd, Nat.reduceSub, ta, tb, tn0, tn1, tn2, tn3, tn4, tn5, tn6, tn7, tn8, tn9, tn10, tn11, tn12]
  rw [ha]
  refine p_signAt h (by omega) ?_
  rw [sgB_in hs]
  dsimp only [x_int, x_lng, x_ild, x_lld, x_ald, x_ist, x_ast, x_lst, x_inc, x_ii, x_id, x_i, x_ll, x_ld, x_l, x_cmp, x_i2l, x_l2i, x_if, x_ic, x_dup, x_pop, x_dup2, x_gI, x_gL, x_gR, x_g1, x_g0, x_gP, x_pI, x_pZ, x_pL, x_pP, x_al, x_as, x_all, x_asl, x_alr, x_len, x_cpy, x_m2, x_m1, x_m2l, x_m1l, x_call, x_cv, x_ri, x_rz, x_rl, x_rv, zg, zset, zbef, zlong, zcat, cond_true, cond_false, List.take, List.drop, rv1, rv2, rv3, rv4, rv5, rv6, rv7, sm0, sm1, bl0, bl1, bl2, bl3, bl4, bl5, bl6, bl7, bl8, List.nil_append, List.cons_append, List.length_cons, List.length_nil, Nat.reduceBEq, Nat.reduceAdd, Nat.reduceSub, ta, tb, tn0, tn1, tn2, tn3, tn4, tn5, tn6, tn7, tn8, tn9, tn10, tn11, tn12]
  rw [ha, n_succ]
  refine p_signAt h (by omega) ?_
  dsimp only [x_int, x_lng, x_ild, x_lld, x_ald, x_ist, x_ast, x_lst, x_inc, x_ii, x_id, x_i, x_ll, x_ld, x_l, x_cmp, x_i2l, x_l2i, x_if, x_ic, x_dup, x_pop, x_dup2, x_gI, x_gL, x_gR, x_g1, x_g0, x_gP, x_pI, x_pZ, x_pL, x_pP, x_al, x_as, x_all, x_asl, x_alr, x_len, x_cpy, x_m2, x_m1, x_m2l, x_m1l, x_call, x_cv, x_ri, x_rz, x_rl, x_rv, zg, zset, zbef, zlong, zcat, cond_true, cond_false, List.take, List.drop, rv1, rv2, rv3, rv4, rv5, rv6, rv7, sm0, sm1, bl0, bl1, bl2, bl3, bl4, bl5, bl6, bl7, bl8, List.nil_append, List.cons_append, List.length_cons, List.length_nil, Nat.reduceBEq, Nat.reduceAdd, Nat.reduceSub, ta, tb, tn0, tn1, tn2, tn3, tn4, tn5, tn6, tn7, tn8, tn9, tn10, tn11, tn12]
  rw [ha, n_succ]
  generalize ed : sgB B n (s + 1) = d at *
  obtain ⟨J1, e1, x1, k1⟩ := zsI_ex I L P 7 0 6 (nI (s + 1))
  rw [e1]
  have two : ∀ κ : Nat, (κ, s + 2) = (if B s = 60 ∧ d = 62 then (31, s + 2) else if (B s = 60 ∨ B s = 62) ∧ d = 61 then ((if B s = 60 then 29 else 32), s + 2) else (kos (B s), s + 1)) → bX7_cutSign_93 K [some scR, some (.inl (nI (B s))), some (.inl (nI d))] [.inl (nI κ), scR] (J1, L, P) := fun κ hκ => by
    unfold bX7_cutSign_93
    dsimp only [x_int, x_lng, x_ild, x_lld, x_ald, x_ist, x_ast, x_lst, x_inc, x_ii, x_id, x_i, x_ll, x_ld, x_l, x_cmp, x_i2l, x_l2i, x_if, x_ic, x_dup, x_pop, x_dup2, x_gI, x_gL, x_gR, x_g1, x_g0, x_gP, x_pI, x_pZ, x_pL, x_pP, x_al, x_as, x_all, x_asl, x_alr, x_len, x_cpy, x_m2, x_m1, x_m2l, x_m1l, x_call, x_cv, x_ri, x_rz, x_rl, x_rv, zg, zset, zbef, zlong, zcat, cond_true, cond_false, List.take, List.drop, rv1, rv2, rv3, rv4, rv5, rv6, rv7, sm0, sm1, bl0, bl1, bl2, bl3, bl4, bl5, bl6, bl7, bl8, List.nil_append, List.cons_append, List.length_cons, List.length_nil, Nat.reduceBEq, Nat.reduceAdd, Nat.reduceSub, ta, tb, tn0, tn1, tn2, tn3, tn4, tn5, tn6, tn7, tn8, tn9, tn10, tn11, tn12, bX7_cutSign_117]
    obtain ⟨J2, e2, x2, k2⟩ := zsI_ex J1 L P 7 0 9 (nI κ)
    rw [e2]
    dsimp only
    rw [k2 7 0 6 (by decide), x1, n_succ]
    obtain ⟨J3, e3, x3, k3⟩ := zsI_ex J2 L P 7 0 6 (nI (s + 1 + 1))
    rw [e3]
    refine hK J3 κ (s + 2) (fun a b c z => ((k3 a b c (by omega)).trans (k2 a b c (by omega))).trans (k1 a b c (by omega))) x3 ((k3 _ _ _ (by decide)).trans x2) ?_ ?_ hκ
    · rw [k3 _ _ _ (by decide), k2 _ _ _ (by decide), k1 _ _ _ (by decide)]
    · rw [k3 _ _ _ (by decide), k2 _ _ _ (by decide), k1 _ _ _ (by decide)]
  have one : (kos (B s), s + 1) = (if B s = 60 ∧ d = 62 then (31, s + 2) else if (B s = 60 ∨ B s = 62) ∧ d = 61 then ((if B s = 60 then 29 else 32), s + 2) else (kos (B s), s + 1)) → bX7_cutSign_109 K [some scR, some (.inl (nI (B s))), some (.inl (nI d))] [] (J1, L, P) := fun hκ => by
    unfold bX7_cutSign_109
    dsimp only [x_int, x_lng, x_ild, x_lld, x_ald, x_ist, x_ast, x_lst, x_inc, x_ii, x_id, x_i, x_ll, x_ld, x_l, x_cmp, x_i2l, x_l2i, x_if, x_ic, x_dup, x_pop, x_dup2, x_gI, x_gL, x_gR, x_g1, x_g0, x_gP, x_pI, x_pZ, x_pL, x_pP, x_al, x_as, x_all, x_asl, x_alr, x_len, x_cpy, x_m2, x_m1, x_m2l, x_m1l, x_call, x_cv, x_ri, x_rz, x_rl, x_rv, zg, zset, zbef, zlong, zcat, cond_true, cond_false, List.take, List.drop, rv1, rv2, rv3, rv4, rv5, rv6, rv7, sm0, sm1, bl0, bl1, bl2, bl3, bl4, bl5, bl6, bl7, bl8, List.nil_append, List.cons_append, List.length_cons, List.length_nil, Nat.reduceBEq, Nat.reduceAdd, Nat.reduceSub, ta, tb, tn0, tn1, tn2, tn3, tn4, tn5, tn6, tn7, tn8, tn9, tn10, tn11, tn12]
    refine p_kindOfSign b256 ?_
    dsimp only [x_int, x_lng, x_ild, x_lld, x_ald, x_ist, x_ast, x_lst, x_inc, x_ii, x_id, x_i, x_ll, x_ld, x_l, x_cmp, x_i2l, x_l2i, x_if, x_ic, x_dup, x_pop, x_dup2, x_gI, x_gL, x_gR, x_g1, x_g0, x_gP, x_pI, x_pZ, x_pL, x_pP, x_al, x_as, x_all, x_asl, x_alr, x_len, x_cpy, x_m2, x_m1, x_m2l, x_m1l, x_call, x_cv, x_ri, x_rz, x_rl, x_rv, zg, zset, zbef, zlong, zcat, cond_true, cond_false, List.take, List.drop, rv1, rv2, rv3, rv4, rv5, rv6, rv7, sm0, sm1, bl0, bl1, bl2, bl3, bl4, bl5, bl6, bl7, bl8, List.nil_append, List.cons_append, List.length_cons, List.length_nil, Nat.reduceBEq, Nat.reduceAdd, Nat.reduceSub, ta, tb, tn0, tn1, tn2, tn3, tn4, tn5, tn6, tn7, tn8, tn9, tn10, tn11, tn12, bX7_cutSign_117]
    obtain ⟨J2, e2, x2, k2⟩ := zsI_ex J1 L P 7 0 9 (nI (kos (B s)))
    rw [e2]
    refine hK J2 (kos (B s)) (s + 1) (fun a b c z => (k2 a b c (by omega)).trans (k1 a b c (by omega))) ((k2 _ _ _ (by decide)).trans x1) x2 ?_ ?_ hκ
    · rw [k2 _ _ _ (by decide), k1 _ _ _ (by decide)]
    · rw [k2 _ _ _ (by decide), k1 _ _ _ (by decide)]
  have e60 : (nI (B s) = 60) ↔ B s = 60 := n_eq (b := 60) (by omega) (by omega)
  have e62 : (nI (B s) = 62) ↔ B s = 62 := n_eq (b := 62) (by omega) (by omega)
  have d62 : (nI d = 62) ↔ d = 62 := n_eq (b := 62) (by omega) (by omega)
  have d61 : (nI d = 61) ↔ d = 61 := n_eq (b := 61) (by omega) (by omega)
  have b73 : ¬ (B s = 60 ∧ d = 62) → (B s = 60 ∨ B s = 62) → bX7_cutSign_73 K [some scR, some (.inl (nI (B s))), some (.inl (nI d))] [] (J1, L, P) := fun q1 q2 => by
    unfold bX7_cutSign_73
    dsimp only [x_int, x_lng, x_ild, x_lld, x_ald, x_ist, x_ast, x_lst, x_inc, x_ii, x_id, x_i, x_ll, x_ld, x_l, x_cmp, x_i2l, x_l2i, x_if, x_ic, x_dup, x_pop, x_dup2, x_gI, x_gL, x_gR, x_g1, x_g0, x_gP, x_pI, x_pZ, x_pL, x_pP, x_al, x_as, x_all, x_asl, x_alr, x_len, x_cpy, x_m2, x_m1, x_m2l, x_m1l, x_call, x_cv, x_ri, x_rz, x_rl, x_rv, zg, zset, zbef, zlong, zcat, cond_true, cond_false, List.take, List.drop, rv1, rv2, rv3, rv4, rv5, rv6, rv7, sm0, sm1, bl0, bl1, bl2, bl3, bl4, bl5, bl6, bl7, bl8, List.nil_append, List.cons_append, List.length_cons, List.length_nil, Nat.reduceBEq, Nat.reduceAdd, Nat.reduceSub, ta, tb, tn0, tn1, tn2, tn3, tn4, tn5, tn6, tn7, tn8, tn9, tn10, tn11, tn12]
    refine ⟨fun z => ⟨fun y => two 29 ?_, fun y => two 32 ?_⟩, fun z => one ?_⟩
    · rw [if_neg q1, if_pos ⟨q2, d61.mp z⟩, if_pos (e60.mp y)]
    · rw [if_neg q1, if_pos ⟨q2, d61.mp z⟩, if_neg (fun w => y (e60.mpr w))]
    · rw [if_neg q1, if_neg (fun w => z (d61.mpr w.2))]
  have b61 : ¬ (B s = 60 ∧ d = 62) → bX7_cutSign_61 K [some scR, some (.inl (nI (B s))), some (.inl (nI d))] [] (J1, L, P) := fun q1 => by
    unfold bX7_cutSign_61
    dsimp only [x_int, x_lng, x_ild, x_lld, x_ald, x_ist, x_ast, x_lst, x_inc, x_ii, x_id, x_i, x_ll, x_ld, x_l, x_cmp, x_i2l, x_l2i, x_if, x_ic, x_dup, x_pop, x_dup2, x_gI, x_gL, x_gR, x_g1, x_g0, x_gP, x_pI, x_pZ, x_pL, x_pP, x_al, x_as, x_all, x_asl, x_alr, x_len, x_cpy, x_m2, x_m1, x_m2l, x_m1l, x_call, x_cv, x_ri, x_rz, x_rl, x_rv, zg, zset, zbef, zlong, zcat, cond_true, cond_false, List.take, List.drop, rv1, rv2, rv3, rv4, rv5, rv6, rv7, sm0, sm1, bl0, bl1, bl2, bl3, bl4, bl5, bl6, bl7, bl8, List.nil_append, List.cons_append, List.length_cons, List.length_nil, Nat.reduceBEq, Nat.reduceAdd, Nat.reduceSub, ta, tb, tn0, tn1, tn2, tn3, tn4, tn5, tn6, tn7, tn8, tn9, tn10, tn11, tn12]
    refine ⟨fun z => b73 q1 (Or.inl (e60.mp z)), fun z => ⟨fun y => b73 q1 (Or.inr (e62.mp y)), fun y => one ?_⟩⟩
    rw [if_neg q1, if_neg (fun w => w.1.elim (fun u => z (e60.mpr u)) (fun u => y (e62.mpr u)))]
  refine ⟨fun z => ⟨fun y => ?_, fun y => b61 (fun w => y (d62.mpr w.2))⟩, fun z => b61 (fun w => z (e60.mpr w.1))⟩
  exact two 31 (by rw [if_pos ⟨e60.mp z, d62.mp y⟩])
theorem p_cut {K : zQ} {I : zI} {L : zJ} {P : zP} {B : Nat → Nat} {n p : Nat} (h : SCx B n I P) (hw : RCw I) (hp : p ≤ n) (ha : I 7 0 6 = nI p) (hK : ∀ I' : zI, fr7 I I' → I' 7 0 9 = nI (tkn B n p).1 → I' 7 0 11 = (tkn B n p).2.1 → I' 7 0 10 = nI (tkn B n p).2.2.1 → I' 7 0 6 = nI (tkn B n p).2.2.2 → K [] (I', L, P)) : mX7_cut K [scR] (I, L, P) := by
  have n7 := h.2.2.1
  have sb := rn_b (P := fun q => isW (B q)) hp
  show bX7_cut_0 K [some scR] [] (I, L, P)
  refine zmea (fun k Z M => ∃ (I' : zI) (q : Nat), Z = [some scR] ∧ M = (I', L, P) ∧ k = n - q ∧ q ≤ n ∧ fr7 I I' ∧ I' 7 0 6 = nI q ∧ rn (fun q => isW (B q)) n p = rn (fun q => isW (B q)) n q) ?_ (n - p) ⟨I, p, rfl, rfl, rfl, hp, fun _ _ _ _ => rfl, ha, rfl⟩
  rintro k Z M ⟨I', q, rfl, rfl, hk, hq, f1, a1, a4⟩ self hself
  have h' := h.z f1
  have out : rn (fun q => isW (B q)) n q = q → bX7_cut_50 K [some scR] [] (I', L, P) := fun e => by
    rw [e] at a4
    unfold tkn at hK
    rw [a4] at hK
    unfold bX7_cut_50
    dsimp only [x_int, x_lng, x_ild, x_lld, x_ald, x_ist, x_ast, x_lst, x_inc, x_ii, x_id, x_i, x_ll, x_ld, x_l, x_cmp, x_i2l, x_l2i, x_if, x_ic, x_dup, x_pop, x_dup2, x_gI, x_gL, x_gR, x_g1, x_g0, x_gP, x_pI, x_pZ, x_pL, x_pP, x_al, x_as, x_all, x_asl, x_alr, x_len, x_cpy, x_m2, x_m1, x_m2l, x_m1l, x_call, x_cv, x_ri, x_rz, x_rl, x_rv, zg, zset, zbef, zlong, zcat, cond_true, cond_false, List.take, List.drop, rv1, rv2, rv3, rv4, rv5, rv6, rv7, sm0, sm1, bl0, bl1, bl2, bl3, bl4, bl5, bl6, bl7, bl8, List.nil_append, List.cons_append, List.length_cons, List.length_nil, Nat.reduceBEq, Nat.reduceAdd, Nat.reduceSub, ta, tb, tn0, tn1, tn2, tn3, tn4, tn5, tn6, tn7, tn8, tn9, tn10, tn11, tn12]
    rw [a1]
    obtain ⟨J1, e1, x1, k1⟩ := zsI_ex I' L P 7 0 10 (nI q)
    rw [e1]
    obtain ⟨J2, e2, x2, k2⟩ := zsI_ex J1 L P 7 0 11 0
    rw [e2]
    have f2 : fr7 I J2 := fun a b c z => ((k2 a b c (by omega)).trans (k1 a b c (by omega))).trans (f1 a b c z)
    have h2 := h.z f2
    have at2 : J2 7 0 6 = nI q := by rw [k2 _ _ _ (by decide), k1 _ _ _ (by decide)]; exact a1
    have st2 : J2 7 0 10 = nI q := by rw [k2 _ _ _ (by decide)]; exact x1
    dsimp only
    rw [at2, h2.1]
    refine ⟨fun z => ?_, fun z => ?_⟩
    · have z : nI q < nI n := z
      rw [n_lt (by omega) (by omega)] at z
      dsimp only at hK
      rw [if_pos z] at hK
      have b256 := (h2.2.2.2 q z).2
      refine p_signAt h2 (by omega) ?_
      dsimp only [x_int, x_lng, x_ild, x_lld, x_ald, x_ist, x_ast, x_lst, x_inc, x_ii, x_id, x_i, x_ll, x_ld, x_l, x_cmp, x_i2l, x_l2i, x_if, x_ic, x_dup, x_pop, x_dup2, x_gI, x_gL, x_gR, x_g1, x_g0, x_gP, x_pI, x_pZ, x_pL, x_pP, x_al, x_as, x_all, x_asl, x_alr, x_len, x_cpy, x_m2, x_m1, x_m2l, x_m1l, x_call, x_cv, x_ri, x_rz, x_rl, x_rv, zg, zset, zbef, zlong, zcat, cond_true, cond_false, List.take, List.drop, rv1, rv2, rv3, rv4, rv5, rv6, rv7, sm0, sm1, bl0, bl1, bl2, bl3, bl4, bl5, bl6, bl7, bl8, List.nil_append, List.cons_append, List.length_cons, List.length_nil, Nat.reduceBEq, Nat.reduceAdd, Nat.reduceSub, ta, tb, tn0, tn1, tn2, tn3, tn4, tn5, tn6, tn7, tn8, tn9, tn10, tn11, tn12]
      rw [sgB_in z]
      refine p_isLetter (by omega) ?_
      dsimp only [x_int, x_lng, x_ild, x_lld, x_ald, x_ist, x_ast, x_lst, x_inc, x_ii, x_id, x_i, x_ll, x_ld, x_l, x_cmp, x_i2l, x_l2i, x_if, x_ic, x_dup, x_pop, x_dup2, x_gI, x_gL, x_gR, x_g1, x_g0, x_gP, x_pI, x_pZ, x_pL, x_pP, x_al, x_as, x_all, x_asl, x_alr, x_len, x_cpy, x_m2, x_m1, x_m2l, x_m1l, x_call, x_cv, x_ri, x_rz, x_rl, x_rv, zg, zset, zbef, zlong, zcat, cond_true, cond_false, List.take, List.drop, rv1, rv2, rv3, rv4, rv5, rv6, rv7, sm0, sm1, bl0, bl1, bl2, bl3, bl4, bl5, bl6, bl7, bl8, List.nil_append, List.cons_append, List.length_cons, List.length_nil, Nat.reduceBEq, Nat.reduceAdd, Nat.reduceSub, ta, tb, tn0, tn1, tn2, tn3, tn4, tn5, tn6, tn7, tn8, tn9, tn10, tn11, tn12]
      cases el : isL (B q) with
      | true =>
        rw [if_pos el] at hK
        refine ⟨fun y => absurd y (by decide), fun _ => p_cutWord h2 (fun i hi => (f2 27 0 i (by omega)).trans (hw i hi)) z at2 x2 (fun I3 f3 c1 c2 c3 c4 => ?_)⟩
        exact hK I3 (f2.tr f3) c2 c4 (c3.trans st2) c1
      | false =>
        rw [if_neg (by rw [el]; decide)] at hK
        refine ⟨fun _ => ?_, fun y => absurd rfl y⟩
        rw [at2]
        refine p_signAt h2 (by omega) ?_
        dsimp only [x_int, x_lng, x_ild, x_lld, x_ald, x_ist, x_ast, x_lst, x_inc, x_ii, x_id, x_i, x_ll, x_ld, x_l, x_cmp, x_i2l, x_l2i, x_if, x_ic, x_dup, x_pop, x_dup2, x_gI, x_gL, x_gR, x_g1, x_g0, x_gP, x_pI, x_pZ, x_pL, x_pP, x_al, x_as, x_all, x_asl, x_alr, x_len, x_cpy, x_m2, x_m1, x_m2l, x_m1l, x_call, x_cv, x_ri, x_rz, x_rl, x_rv, zg, zset, zbef, zlong, zcat, cond_true, cond_false, List.take, List.drop, rv1, rv2, rv3, rv4, rv5, rv6, rv7, sm0, sm1, bl0, bl1, bl2, bl3, bl4, bl5, bl6, bl7, bl8, List.nil_append, List.cons_append, List.length_cons, List.length_nil, Nat.reduceBEq, Nat.reduceAdd, Nat.reduceSub, ta, tb, tn0, tn1, tn2, tn3, tn4, tn5, tn6, tn7, tn8, tn9, tn10, tn11, tn12]
        rw [sgB_in z]
        refine p_isDigit7 (by omega) ?_
        dsimp only [x_int, x_lng, x_ild, x_lld, x_ald, x_ist, x_ast, x_lst, x_inc, x_ii, x_id, x_i, x_ll, x_ld, x_l, x_cmp, x_i2l, x_l2i, x_if, x_ic, x_dup, x_pop, x_dup2, x_gI, x_gL, x_gR, x_g1, x_g0, x_gP, x_pI, x_pZ, x_pL, x_pP, x_al, x_as, x_all, x_asl, x_alr, x_len, x_cpy, x_m2, x_m1, x_m2l, x_m1l, x_call, x_cv, x_ri, x_rz, x_rl, x_rv, zg, zset, zbef, zlong, zcat, cond_true, cond_false, List.take, List.drop, rv1, rv2, rv3, rv4, rv5, rv6, rv7, sm0, sm1, bl0, bl1, bl2, bl3, bl4, bl5, bl6, bl7, bl8, List.nil_append, List.cons_append, List.length_cons, List.length_nil, Nat.reduceBEq, Nat.reduceAdd, Nat.reduceSub, ta, tb, tn0, tn1, tn2, tn3, tn4, tn5, tn6, tn7, tn8, tn9, tn10, tn11, tn12]
        cases ed : isD (B q) with
        | true =>
          rw [if_pos ed] at hK
          refine ⟨fun y => absurd y (by decide), fun _ => p_cutNumber h2 z at2 x2 (fun I3 f3 c1 c2 c3 c4 => ?_)⟩
          exact hK I3 (f2.tr f3) c2 c4 (c3.trans st2) c1
        | false =>
          rw [if_neg (by rw [ed]; decide)] at hK
          refine ⟨fun _ => p_cutSign h2 z at2 (fun I3 κ nx f3 c1 c2 c3 c4 c5 => ?_), fun y => absurd rfl y⟩
          dsimp only [x_int, x_lng, x_ild, x_lld, x_ald, x_ist, x_ast, x_lst, x_inc, x_ii, x_id, x_i, x_ll, x_ld, x_l, x_cmp, x_i2l, x_l2i, x_if, x_ic, x_dup, x_pop, x_dup2, x_gI, x_gL, x_gR, x_g1, x_g0, x_gP, x_pI, x_pZ, x_pL, x_pP, x_al, x_as, x_all, x_asl, x_alr, x_len, x_cpy, x_m2, x_m1, x_m2l, x_m1l, x_call, x_cv, x_ri, x_rz, x_rl, x_rv, zg, zset, zbef, zlong, zcat, cond_true, cond_false, List.take, List.drop, rv1, rv2, rv3, rv4, rv5, rv6, rv7, sm0, sm1, bl0, bl1, bl2, bl3, bl4, bl5, bl6, bl7, bl8, List.nil_append, List.cons_append, List.length_cons, List.length_nil, Nat.reduceBEq, Nat.reduceAdd, Nat.reduceSub, ta, tb, tn0, tn1, tn2, tn3, tn4, tn5, tn6, tn7, tn8, tn9, tn10, tn11, tn12, bX7_cut_129]
          have hK := hK I3 (f2.tr f3)
          have c3 := c3.trans st2
          have c4 := c4.trans x2
          by_cases w1 : B q = 60 ∧ sgB B n (q + 1) = 62
          · rw [if_pos w1] at hK c5
            cases c5
            exact hK c2 c4 c3 c1
          · rw [if_neg w1] at hK c5
            by_cases w2 : (B q = 60 ∨ B q = 62) ∧ sgB B n (q + 1) = 61
            · rw [if_pos w2] at hK c5
              cases c5
              exact hK c2 c4 c3 c1
            · rw [if_neg w2] at hK c5
              cases c5
              exact hK c2 c4 c3 c1
    · have z : ¬ nI q < nI n := z
      rw [n_lt (by omega) (by omega)] at z
      dsimp only at hK
      rw [if_neg z] at hK
      obtain ⟨J3, e3, x3, k3⟩ := zsI_ex J2 L P 7 0 9 34
      rw [e3]
      dsimp only [x_int, x_lng, x_ild, x_lld, x_ald, x_ist, x_ast, x_lst, x_inc, x_ii, x_id, x_i, x_ll, x_ld, x_l, x_cmp, x_i2l, x_l2i, x_if, x_ic, x_dup, x_pop, x_dup2, x_gI, x_gL, x_gR, x_g1, x_g0, x_gP, x_pI, x_pZ, x_pL, x_pP, x_al, x_as, x_all, x_asl, x_alr, x_len, x_cpy, x_m2, x_m1, x_m2l, x_m1l, x_call, x_cv, x_ri, x_rz, x_rl, x_rv, zg, zset, zbef, zlong, zcat, cond_true, cond_false, List.take, List.drop, rv1, rv2, rv3, rv4, rv5, rv6, rv7, sm0, sm1, bl0, bl1, bl2, bl3, bl4, bl5, bl6, bl7, bl8, List.nil_append, List.cons_append, List.length_cons, List.length_nil, Nat.reduceBEq, Nat.reduceAdd, Nat.reduceSub, ta, tb, tn0, tn1, tn2, tn3, tn4, tn5, tn6, tn7, tn8, tn9, tn10, tn11, tn12, bX7_cut_129]
      exact hK J3 (fun a b c y => (k3 a b c (by omega)).trans (f2 a b c y)) x3 ((k3 _ _ _ (by decide)).trans x2) ((k3 _ _ _ (by decide)).trans st2) ((k3 _ _ _ (by decide)).trans at2)
  dsimp only [x_int, x_lng, x_ild, x_lld, x_ald, x_ist, x_ast, x_lst, x_inc, x_ii, x_id, x_i, x_ll, x_ld, x_l, x_cmp, x_i2l, x_l2i, x_if, x_ic, x_dup, x_pop, x_dup2, x_gI, x_gL, x_gR, x_g1, x_g0, x_gP, x_pI, x_pZ, x_pL, x_pP, x_al, x_as, x_all, x_asl, x_alr, x_len, x_cpy, x_m2, x_m1, x_m2l, x_m1l, x_call, x_cv, x_ri, x_rz, x_rl, x_rv, zg, zset, zbef, zlong, zcat, cond_true, cond_false, List.take, List.drop, rv1, rv2, rv3, rv4, rv5, rv6, rv7, sm0, sm1, bl0, bl1, bl2, bl3, bl4, bl5, bl6, bl7, bl8, List.nil_append, List.cons_append, List.length_cons, List.length_nil, Nat.reduceBEq, Nat.reduceAdd, Nat.reduceSub, ta, tb, tn0, tn1, tn2, tn3, tn4, tn5, tn6, tn7, tn8, tn9, tn10, tn11, tn12]
  rw [a1, h'.1]
  refine ⟨fun z => out ?_, fun z => p_signAt h' (by omega) ?_⟩
  · have z : nI n ≤ nI q := z
    rw [n_le (by omega) (by omega)] at z
    exact rn_stop (by omega)
  · have z : ¬ nI n ≤ nI q := z
    rw [n_le (by omega) (by omega)] at z
    have z : q < n := by omega
    have b256 := (h'.2.2.2 q z).2
    have e10 : (nI (B q) = 10) ↔ B q = 10 := n_eq (b := 10) (by omega) (by omega)
    have e32 : (nI (B q) = 32) ↔ B q = 32 := n_eq (b := 32) (by omega) (by omega)
    have go : isW (B q) = true → bX7_cut_37 K self [some scR] [] (I', L, P) := fun w => by
      unfold bX7_cut_37
      dsimp only [x_int, x_lng, x_ild, x_lld, x_ald, x_ist, x_ast, x_lst, x_inc, x_ii, x_id, x_i, x_ll, x_ld, x_l, x_cmp, x_i2l, x_l2i, x_if, x_ic, x_dup, x_pop, x_dup2, x_gI, x_gL, x_gR, x_g1, x_g0, x_gP, x_pI, x_pZ, x_pL, x_pP, x_al, x_as, x_all, x_asl, x_alr, x_len, x_cpy, x_m2, x_m1, x_m2l, x_m1l, x_call, x_cv, x_ri, x_rz, x_rl, x_rv, zg, zset, zbef, zlong, zcat, cond_true, cond_false, List.take, List.drop, rv1, rv2, rv3, rv4, rv5, rv6, rv7, sm0, sm1, bl0, bl1, bl2, bl3, bl4, bl5, bl6, bl7, bl8, List.nil_append, List.cons_append, List.length_cons, List.length_nil, Nat.reduceBEq, Nat.reduceAdd, Nat.reduceSub, ta, tb, tn0, tn1, tn2, tn3, tn4, tn5, tn6, tn7, tn8, tn9, tn10, tn11, tn12]
      rw [a1, n_succ]
      obtain ⟨J1, e1, x1, k1⟩ := zsI_ex I' L P 7 0 6 (nI (q + 1))
      rw [e1]
      exact hself (n - (q + 1)) _ _ (by omega) ⟨J1, q + 1, rfl, rfl, rfl, by omega, fun a b c y => (k1 a b c (by omega)).trans (f1 a b c y), x1, by rw [a4, rn_go z w]⟩
    dsimp only [x_int, x_lng, x_ild, x_lld, x_ald, x_ist, x_ast, x_lst, x_inc, x_ii, x_id, x_i, x_ll, x_ld, x_l, x_cmp, x_i2l, x_l2i, x_if, x_ic, x_dup, x_pop, x_dup2, x_gI, x_gL, x_gR, x_g1, x_g0, x_gP, x_pI, x_pZ, x_pL, x_pP, x_al, x_as, x_all, x_asl, x_alr, x_len, x_cpy, x_m2, x_m1, x_m2l, x_m1l, x_call, x_cv, x_ri, x_rz, x_rl, x_rv, zg, zset, zbef, zlong, zcat, cond_true, cond_false, List.take, List.drop, rv1, rv2, rv3, rv4, rv5, rv6, rv7, sm0, sm1, bl0, bl1, bl2, bl3, bl4, bl5, bl6, bl7, bl8, List.nil_append, List.cons_append, List.length_cons, List.length_nil, Nat.reduceBEq, Nat.reduceAdd, Nat.reduceSub, ta, tb, tn0, tn1, tn2, tn3, tn4, tn5, tn6, tn7, tn8, tn9, tn10, tn11, tn12]
    rw [sgB_in z]
    refine ⟨fun y => go (decide_eq_true (Or.inl (e10.mp y))), fun y => ?_⟩
    rw [a1]
    refine p_signAt h' (by omega) ?_
    dsimp only [x_int, x_lng, x_ild, x_lld, x_ald, x_ist, x_ast, x_lst, x_inc, x_ii, x_id, x_i, x_ll, x_ld, x_l, x_cmp, x_i2l, x_l2i, x_if, x_ic, x_dup, x_pop, x_dup2, x_gI, x_gL, x_gR, x_g1, x_g0, x_gP, x_pI, x_pZ, x_pL, x_pP, x_al, x_as, x_all, x_asl, x_alr, x_len, x_cpy, x_m2, x_m1, x_m2l, x_m1l, x_call, x_cv, x_ri, x_rz, x_rl, x_rv, zg, zset, zbef, zlong, zcat, cond_true, cond_false, List.take, List.drop, rv1, rv2, rv3, rv4, rv5, rv6, rv7, sm0, sm1, bl0, bl1, bl2, bl3, bl4, bl5, bl6, bl7, bl8, List.nil_append, List.cons_append, List.length_cons, List.length_nil, Nat.reduceBEq, Nat.reduceAdd, Nat.reduceSub, ta, tb, tn0, tn1, tn2, tn3, tn4, tn5, tn6, tn7, tn8, tn9, tn10, tn11, tn12]
    rw [sgB_in z]
    refine ⟨fun w => go (decide_eq_true (Or.inr (e32.mp w))), fun w => out (rn_stop (fun u => ?_))⟩
    have := of_decide_eq_true u.2
    exact this.elim (fun v => y (e10.mpr v)) (fun v => w (e32.mpr v))
