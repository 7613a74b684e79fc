theorem p_beginR {K : zQ} {I : zI} {L : zJ} {P : zP} (hK : ∀ (I1 I' : zI) (L' : zJ), ony (afK 0) I I1 → afR 0 I I1 → (∀ a b c, ¬ (a = 12 ∧ b = 0 ∧ 63 ≤ c ∧ c ≤ 75) → I' a b c = I1 a b c) → pln I' → I' 12 0 69 = 0 → I' 12 0 70 = -1 → I' 12 0 73 = 0 → I' 12 0 75 = 0 → L' 12 0 61 = (I 54 0 1).toInt64 → K [] (I', L', P)) : mX12_begin K [refR] (I, L, P) := by
  show bX12_begin_0 K [some (.inr (.inr (12,0)))] [] (I, L, P)
  unfold bX12_begin_0
  dsimp only [x_int, x_lng, x_ild, x_lld, x_ald, x_ist, x_ast, x_lst, x_inc, x_ii, x_id, x_i, x_ll, x_ld, x_l, x_cmp, x_i2l, x_l2i, x_if, x_ic, x_dup, x_pop, x_dup2, x_gI, x_gL, x_gR, x_g1, x_g0, x_gP, x_pI, x_pZ, x_pL, x_pP, x_al, x_as, x_all, x_asl, x_alr, x_len, x_cpy, x_m2, x_m1, x_m2l, x_m1l, x_call, x_cv, x_ri, x_rz, x_rl, x_rv, zg, zset, zbef, zlong, zcat, cond_true, cond_false, List.take, List.drop, rv1, rv2, rv3, rv4, rv5, rv6, rv7, sm0, sm1, bl0, bl1, bl2, bl3, bl4, bl5, bl6, bl7, bl8, List.nil_append, List.cons_append, List.length_cons, List.length_nil, Nat.reduceBEq, Nat.reduceAdd, Nat.reduceSub, ta, tb, tn0, tn1, tn2, tn3, tn4, tn5, tn6, tn7, tn8, tn9, tn10, tn11, tn12]
  refine p_atFirst (b := 0) (by decide) (fun I1 f1 r1 => ?_)
  dsimp only [x_int, x_lng, x_ild, x_lld, x_ald, x_ist, x_ast, x_lst, x_inc, x_ii, x_id, x_i, x_ll, x_ld, x_l, x_cmp, x_i2l, x_l2i, x_if, x_ic, x_dup, x_pop, x_dup2, x_gI, x_gL, x_gR, x_g1, x_g0, x_gP, x_pI, x_pZ, x_pL, x_pP, x_al, x_as, x_all, x_asl, x_alr, x_len, x_cpy, x_m2, x_m1, x_m2l, x_m1l, x_call, x_cv, x_ri, x_rz, x_rl, x_rv, zg, zset, zbef, zlong, zcat, cond_true, cond_false, List.take, List.drop, rv1, rv2, rv3, rv4, rv5, rv6, rv7, sm0, sm1, bl0, bl1, bl2, bl3, bl4, bl5, bl6, bl7, bl8, List.nil_append, List.cons_append, List.length_cons, List.length_nil, Nat.reduceBEq, Nat.reduceAdd, Nat.reduceSub, ta, tb, tn0, tn1, tn2, tn3, tn4, tn5, tn6, tn7, tn8, tn9, tn10, tn11, tn12, zk_54, zl_54, cond_true]
  obtain ⟨L2, l2, w2, y2⟩ := zsL_ex I1 L P 12 0 61 ((I1 54 0 1).toInt64)
  refine ⟨n_zin (i := 1) (by decide) (by decide), ?_⟩
  rw [l2]
  refine p_plain0 ?_
  unfold plnM
  dsimp only [x_int, x_lng, x_ild, x_lld, x_ald, x_ist, x_ast, x_lst, x_inc, x_ii, x_id, x_i, x_ll, x_ld, x_l, x_cmp, x_i2l, x_l2i, x_if, x_ic, x_dup, x_pop, x_dup2, x_gI, x_gL, x_gR, x_g1, x_g0, x_gP, x_pI, x_pZ, x_pL, x_pP, x_al, x_as, x_all, x_asl, x_alr, x_len, x_cpy, x_m2, x_m1, x_m2l, x_m1l, x_call, x_cv, x_ri, x_rz, x_rl, x_rv, zg, zset, zbef, zlong, zcat, cond_true, cond_false, List.take, List.drop, rv1, rv2, rv3, rv4, rv5, rv6, rv7, sm0, sm1, bl0, bl1, bl2, bl3, bl4, bl5, bl6, bl7, bl8, List.nil_append, List.cons_append, List.length_cons, List.length_nil, Nat.reduceBEq, Nat.reduceAdd, Nat.reduceSub, ta, tb, tn0, tn1, tn2, tn3, tn4, tn5, tn6, tn7, tn8, tn9, tn10, tn11, tn12]
  obtain ⟨J1, g1, x1, k1⟩ := zsI_ex I1 L2 P 12 0 63 (0 : Int32)
  rw [g1]
  obtain ⟨J2, g2, x2, k2⟩ := zsI_ex J1 L2 P 12 0 64 (-1 : Int32)
  rw [g2]
  obtain ⟨J3, g3, x3, k3⟩ := zsI_ex J2 L2 P 12 0 65 (-1 : Int32)
  rw [g3]
  obtain ⟨J4, g4, x4, k4⟩ := zsI_ex J3 L2 P 12 0 66 (-1 : Int32)
  rw [g4]
  obtain ⟨J5, g5, x5, k5⟩ := zsI_ex J4 L2 P 12 0 67 (0 : Int32)
  rw [g5]
  obtain ⟨J6, g6, x6, k6⟩ := zsI_ex J5 L2 P 12 0 69 (0 : Int32)
  rw [g6]
  obtain ⟨J7, g7, x7, k7⟩ := zsI_ex J6 L2 P 12 0 70 (-1 : Int32)
  rw [g7]
  obtain ⟨J8, g8, x8, k8⟩ := zsI_ex J7 L2 P 12 0 73 (0 : Int32)
  rw [g8]
  obtain ⟨J9, g9, x9, k9⟩ := zsI_ex J8 L2 P 12 0 75 (0 : Int32)
  rw [g9]
  refine ⟨Or.inl rfl, hK I1 J9 L2 f1 r1 (fun a b c u => ?_) ⟨?_, ?_, ?_, ?_, ?_⟩ ?_ ?_ ?_ x9 ?_⟩
  · rw [k9 _ _ _ (by omega), k8 _ _ _ (by omega), k7 _ _ _ (by omega), k6 _ _ _ (by omega), k5 _ _ _ (by omega), k4 _ _ _ (by omega), k3 _ _ _ (by omega), k2 _ _ _ (by omega), k1 _ _ _ (by omega)]
  · rw [k9 _ _ _ (by decide), k8 _ _ _ (by decide), k7 _ _ _ (by decide), k6 _ _ _ (by decide), k5 _ _ _ (by decide), k4 _ _ _ (by decide), k3 _ _ _ (by decide), k2 _ _ _ (by decide)]; exact x1
  · rw [k9 _ _ _ (by decide), k8 _ _ _ (by decide), k7 _ _ _ (by decide), k6 _ _ _ (by decide), k5 _ _ _ (by decide), k4 _ _ _ (by decide), k3 _ _ _ (by decide)]; exact x2
  · rw [k9 _ _ _ (by decide), k8 _ _ _ (by decide), k7 _ _ _ (by decide), k6 _ _ _ (by decide), k5 _ _ _ (by decide), k4 _ _ _ (by decide)]; exact x3
  · rw [k9 _ _ _ (by decide), k8 _ _ _ (by decide), k7 _ _ _ (by decide), k6 _ _ _ (by decide), k5 _ _ _ (by decide)]; exact x4
  · rw [k9 _ _ _ (by decide), k8 _ _ _ (by decide), k7 _ _ _ (by decide), k6 _ _ _ (by decide)]; exact x5
  · rw [k9 _ _ _ (by decide), k8 _ _ _ (by decide), k7 _ _ _ (by decide)]; exact x6
  · rw [k9 _ _ _ (by decide), k8 _ _ _ (by decide)]; exact x7
  · rw [k9 _ _ _ (by decide)]; exact x8
  · rw [w2, f1.lo (fun v => by unfold afK at v; omega)]
/-- nothing is read yet -/
theorem p_plainR {K : zQ} {I : zI} {L : zJ} {P : zP} (hK : ∀ I' : zI, ony (fun a c => (a = 12 ∧ ((16 ≤ c ∧ c ≤ 19) ∨ c = 44)) ∨ a = 53 ∨ (a = 54 ∧ 2 ≤ c) ∨ (a = 66 ∧ 3 ≤ c)) I I' → RQ I' (T00, false, false) → K [] (I', L, P)) : mX12_plain K [refR] (I, L, P) := by
  show bX12_plain_0 K [some (.inr (.inr (12,0))), none] [] (I, L, P)
  unfold bX12_plain_0
  dsimp only [x_int, x_lng, x_ild, x_lld, x_ald, x_ist, x_ast, x_lst, x_inc, x_ii, x_id, x_i, x_ll, x_ld, x_l, x_cmp, x_i2l, x_l2i, x_if, x_ic, x_dup, x_pop, x_dup2, x_gI, x_gL, x_gR, x_g1, x_g0, x_gP, x_pI, x_pZ, x_pL, x_pP, x_al, x_as, x_all, x_asl, x_alr, x_len, x_cpy, x_m2, x_m1, x_m2l, x_m1l, x_call, x_cv, x_ri, x_rz, x_rl, x_rv, zg, zset, zbef, zlong, zcat, cond_true, cond_false, List.take, List.drop, rv1, rv2, rv3, rv4, rv5, rv6, rv7, sm0, sm1, bl0, bl1, bl2, bl3, bl4, bl5, bl6, bl7, bl8, List.nil_append, List.cons_append, List.length_cons, List.length_nil, Nat.reduceBEq, Nat.reduceAdd, Nat.reduceSub, ta, tb, tn0, tn1, tn2, tn3, tn4, tn5, tn6, tn7, tn8, tn9, tn10, tn11, tn12, zk_53, zl_53, zk_54, zl_54, cond_true]
  obtain ⟨J1, g1, x1, k1⟩ := zsI_ex I L P 12 0 16 (0 : Int32)
  rw [g1]
  obtain ⟨J2, g2, x2, k2⟩ := zsI_ex J1 L P 12 0 17 (0 : Int32)
  rw [g2]
  obtain ⟨J3, g3, x3, k3⟩ := zsI_ex J2 L P 12 0 18 (0 : Int32)
  rw [g3]
  obtain ⟨J4, g4, x4, k4⟩ := zsI_ex J3 L P 12 0 19 (0 : Int32)
  rw [g4]
  obtain ⟨J5, g5, x5, k5⟩ := zsI_ex J4 L P 12 0 44 (0 : Int32)
  rw [g5]
  obtain ⟨J6, g6, x6, k6⟩ := zsI_ex J5 L P 53 0 0 (0 : Int32)
  have g6 : zsI (J5, L, P) 53 0 0 (vp_nar .boolean 0) = (J6, L, P) := g6
  rw [g6]
  obtain ⟨J7, g7, x7, k7⟩ := zsI_ex J6 L P 53 0 1 (0 : Int32)
  have g7 : zsI (J6, L, P) 53 0 1 (vp_nar .boolean 0) = (J7, L, P) := g7
  rw [g7]
  obtain ⟨J8, g8, x8, k8⟩ := zsI_ex J7 L P 54 0 2 (3 : Int32)
  rw [g8]
  obtain ⟨J9, g9, x9, k9⟩ := zsI_ex J8 L P 54 0 3 (0 : Int32)
  rw [g9]
  refine ⟨n_zin (i := 0) (by decide) (by decide), n_zin (i := 1) (by decide) (by decide), n_zin (i := 2) (by decide) (by decide), n_zin (i := 3) (by decide) (by decide), ?_⟩
  refine zinv 3 (fun k Z M => ∃ I' : zI, Z = [some refR, some (.inl (nI (3 + k)))] ∧ M = (I', L, P) ∧ (∀ a b c, ¬ (a = 66 ∧ b = 0 ∧ 3 ≤ c) → I' a b c = J9 a b c) ∧ ∀ i, i < k → I' 66 0 (3 + i) = 0) ?_ ?_ ⟨J9, rfl, rfl, fun _ _ _ _ => rfl, fun i hi => by omega⟩
  · rintro k Z M hk ⟨I1, rfl, rfl, r1, r2⟩ self hself
    dsimp only [x_int, x_lng, x_ild, x_lld, x_ald, x_ist, x_ast, x_lst, x_inc, x_ii, x_id, x_i, x_ll, x_ld, x_l, x_cmp, x_i2l, x_l2i, x_if, x_ic, x_dup, x_pop, x_dup2, x_gI, x_gL, x_gR, x_g1, x_g0, x_gP, x_pI, x_pZ, x_pL, x_pP, x_al, x_as, x_all, x_asl, x_alr, x_len, x_cpy, x_m2, x_m1, x_m2l, x_m1l, x_call, x_cv, x_ri, x_rz, x_rl, x_rv, zg, zset, zbef, zlong, zcat, cond_true, cond_false, List.take, List.drop, rv1, rv2, rv3, rv4, rv5, rv6, rv7, sm0, sm1, bl0, bl1, bl2, bl3, bl4, bl5, bl6, bl7, bl8, List.nil_append, List.cons_append, List.length_cons, List.length_nil, Nat.reduceBEq, Nat.reduceAdd, Nat.reduceSub, ta, tb, tn0, tn1, tn2, tn3, tn4, tn5, tn6, tn7, tn8, tn9, tn10, tn11, tn12, zk_66, zl_66, cond_true]
    rw [n_cl (n := 3 + k) (by omega), n_succ]
    refine ⟨fun y => ?_, fun _ => ⟨n_zin (by show 3 + k < 6; omega) (by decide), ?_⟩⟩
    · have y : nI 6 ≤ nI (3 + k) := y
      rw [n_le (by omega) (by omega)] at y
      omega
    obtain ⟨J, g, x, f⟩ := zsI_ex I1 L P 66 0 (3 + k) (0 : Int32)
    have g : zsI (I1, L, P) 66 0 (3 + k) (vp_nar .boolean 0) = (J, L, P) := g
    rw [g]
    refine hself _ _ ⟨J, rfl, rfl, fun a b c u => (f a b c (fun v => u ⟨v.1, v.2.1, by omega⟩)).trans (r1 a b c u), fun i hi => ?_⟩
    by_cases e : i = k
    · subst e; exact x
    · rw [f _ _ _ (by omega)]; exact r2 i (by omega)
  · rintro Z M ⟨I1, rfl, rfl, r1, r2⟩ self
    dsimp only [x_int, x_lng, x_ild, x_lld, x_ald, x_ist, x_ast, x_lst, x_inc, x_ii, x_id, x_i, x_ll, x_ld, x_l, x_cmp, x_i2l, x_l2i, x_if, x_ic, x_dup, x_pop, x_dup2, x_gI, x_gL, x_gR, x_g1, x_g0, x_gP, x_pI, x_pZ, x_pL, x_pP, x_al, x_as, x_all, x_asl, x_alr, x_len, x_cpy, x_m2, x_m1, x_m2l, x_m1l, x_call, x_cv, x_ri, x_rz, x_rl, x_rv, zg, zset, zbef, zlong, zcat, cond_true, cond_false, List.take, List.drop, rv1, rv2, rv3, rv4, rv5, rv6, rv7, sm0, sm1, bl0, bl1, bl2, bl3, bl4, bl5, bl6, bl7, bl8, List.nil_append, List.cons_append, List.length_cons, List.length_nil, Nat.reduceBEq, Nat.reduceAdd, Nat.reduceSub, ta, tb, tn0, tn1, tn2, tn3, tn4, tn5, tn6, tn7, tn8, tn9, tn10, tn11, tn12]
    refine ⟨fun _ => hK I1 (fun a b c u => ?_) ⟨⟨?_, ?_, ?_⟩, ⟨Nat.zero_le _, Nat.zero_le _, Nat.zero_le _⟩, fun x hx => absurd hx (Nat.not_lt_zero _), fun x hx => absurd hx (Nat.not_lt_zero _), fun x hx => absurd hx (Nat.not_lt_zero _), ⟨?_, ?_, ?_, ?_⟩, fun q hq => Or.inl ⟨rfl, r2 q hq⟩, ?_, ?_⟩, fun y => absurd (show nI 6 ≤ nI (3 + 3) from Int32.le_refl _) y⟩
    · rw [r1 a b c (fun v => u ⟨v.2.1, by omega⟩), k9 a b c (fun v => u ⟨v.2.1, by omega⟩), k8 a b c (fun v => u ⟨v.2.1, by omega⟩), k7 a b c (fun v => u ⟨v.2.1, by omega⟩), k6 a b c (fun v => u ⟨v.2.1, by omega⟩), k5 a b c (fun v => u ⟨v.2.1, by omega⟩), k4 a b c (fun v => u ⟨v.2.1, by omega⟩), k3 a b c (fun v => u ⟨v.2.1, by omega⟩), k2 a b c (fun v => u ⟨v.2.1, by omega⟩), k1 a b c (fun v => u ⟨v.2.1, by omega⟩)]
    · rw [r1 _ _ _ (by decide), k9 _ _ _ (by decide), k8 _ _ _ (by decide), k7 _ _ _ (by decide), k6 _ _ _ (by decide), k5 _ _ _ (by decide), k4 _ _ _ (by decide), k3 _ _ _ (by decide), k2 _ _ _ (by decide)]; exact x1
    · rw [r1 _ _ _ (by decide), k9 _ _ _ (by decide), k8 _ _ _ (by decide), k7 _ _ _ (by decide), k6 _ _ _ (by decide), k5 _ _ _ (by decide), k4 _ _ _ (by decide), k3 _ _ _ (by decide)]; exact x2
    · rw [r1 _ _ _ (by decide), k9 _ _ _ (by decide), k8 _ _ _ (by decide), k7 _ _ _ (by decide), k6 _ _ _ (by decide), k5 _ _ _ (by decide), k4 _ _ _ (by decide)]; exact x3
    · rw [r1 _ _ _ (by decide), k9 _ _ _ (by decide)]; exact x8
    · rw [r1 _ _ _ (by decide)]; exact x9
    · rw [r1 _ _ _ (by decide), k9 _ _ _ (by decide), k8 _ _ _ (by decide), k7 _ _ _ (by decide), k6 _ _ _ (by decide), k5 _ _ _ (by decide)]; exact x4
    · rw [r1 _ _ _ (by decide), k9 _ _ _ (by decide), k8 _ _ _ (by decide), k7 _ _ _ (by decide), k6 _ _ _ (by decide)]; exact x5
    · rw [r1 _ _ _ (by decide), k9 _ _ _ (by decide), k8 _ _ _ (by decide), k7 _ _ _ (by decide)]; exact x6
    · rw [r1 _ _ _ (by decide), k9 _ _ _ (by decide), k8 _ _ _ (by decide)]; exact x7
