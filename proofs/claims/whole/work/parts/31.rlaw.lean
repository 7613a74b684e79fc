def rcm (k : Int32) (a b : Int64) : Int32 := if k = 5 then (if b ≤ a then 0 else 1) else if k = 6 then (if b < a then 0 else 1) else if k = 7 then (if a = b then 1 else 0) else if k = 8 then (if a = b then 0 else 1) else if k = 9 then (if a < b then 0 else 1) else (if a ≤ b then 0 else 1)
theorem p_compares {K : zQ} {M : zM} {k : Int32} {a b : Int64} (hK : K [.inl (rcm k a b)] M) : mX12_compares K [.inl k, .inr (.inl a), .inr (.inl b)] M := by
  unfold rcm at hK
  refine And.intro (fun c => ?_) (fun c => ?_)
  · rw [if_pos c] at hK
    refine And.intro (fun d => And.intro (Or.inl rfl) ?_) (fun d => And.intro (Or.inr rfl) ?_)
    · rw [if_pos ((lc_ge _ _).mp d)] at hK
      exact hK
    · rw [if_neg (fun q => d ((lc_ge _ _).mpr q))] at hK
      exact hK
  rw [if_neg c] at hK
  refine And.intro (fun c => ?_) (fun c => ?_)
  · rw [if_pos c] at hK
    refine And.intro (fun d => And.intro (Or.inl rfl) ?_) (fun d => And.intro (Or.inr rfl) ?_)
    · rw [if_pos ((lc_gt _ _).mp d)] at hK
      exact hK
    · rw [if_neg (fun q => d ((lc_gt _ _).mpr q))] at hK
      exact hK
  rw [if_neg c] at hK
  refine And.intro (fun c => ?_) (fun c => ?_)
  · rw [if_pos c] at hK
    refine And.intro (fun d => And.intro (Or.inr rfl) ?_) (fun d => And.intro (Or.inl rfl) ?_)
    · rw [if_pos ((lc_eq _ _).mp d)] at hK
      exact hK
    · rw [if_neg (fun q => d ((lc_eq _ _).mpr q))] at hK
      exact hK
  rw [if_neg c] at hK
  refine And.intro (fun c => ?_) (fun c => ?_)
  · rw [if_pos c] at hK
    refine And.intro (fun d => And.intro (Or.inl rfl) ?_) (fun d => And.intro (Or.inr rfl) ?_)
    · rw [if_pos ((lc_eq _ _).mp d)] at hK
      exact hK
    · rw [if_neg (fun q => d ((lc_eq _ _).mpr q))] at hK
      exact hK
  rw [if_neg c] at hK
  refine And.intro (fun c => ?_) (fun c => ?_)
  · rw [if_pos c] at hK
    refine And.intro (fun d => And.intro (Or.inl rfl) ?_) (fun d => And.intro (Or.inr rfl) ?_)
    · rw [if_pos ((lc_lt _ _).mp d)] at hK
      exact hK
    · rw [if_neg (fun q => d ((lc_lt _ _).mpr q))] at hK
      exact hK
  rw [if_neg c] at hK
  refine And.intro (fun d => And.intro (Or.inl rfl) ?_) (fun d => And.intro (Or.inr rfl) ?_)
  · rw [if_pos ((lc_le _ _).mp d)] at hK
    exact hK
  · rw [if_neg (fun q => d ((lc_le _ _).mpr q))] at hK
    exact hK
def rjn (k : Int32) (a b : Int64) (e : Int32) : Int64 × Int32 :=
  if k = 3 then (if a = 0 then 0 else if b = 0 then 0 else 1, e)
  else if k = 4 then (if a = 0 then (if b = 0 then 0 else 1) else 1, e)
  else if k = 11 then bnd e (a + b)
  else if k = 12 then bnd e (a - b)
  else if k = 13 then tms e a b
  else if k = 14 then (if e = 0 then (if b = 0 then (0, 1) else (a / b, 0)) else (0, 1))
  else (if rcm k a b = 0 then 0 else 1, e)
abbrev refR : zV := .inr (.inr (12, 0))
theorem p_valueOf {K : zQ} {I : zI} {L : zJ} {P : zP} {p : Nat} (hp : p < 128)
    (h0 : I 69 0 p = 0 → K [.inr (.inl (I 70 0 p).toInt64)] (I, L, P))
    (h1 : I 69 0 p = 1 → zin (I 70 0 p) 7 ∧ K [.inr (.inl (L 74 0 (I 70 0 p).toNatClampNeg))] (I, L, P))
    (h2 : I 69 0 p = 2 → zin (I 70 0 p) 64 ∧ K [.inr (.inl (if L 75 0 (I 70 0 p).toNatClampNeg = 0 then 1 else 0))] (I, L, P))
    (h3 : ¬ I 69 0 p = 0 → ¬ I 69 0 p = 1 → ¬ I 69 0 p = 2 → zin (I 70 0 p) 64 ∧ zin (I 71 0 p) 64 ∧ ∀ I' : zI, frE I I' → I' 12 0 49 = (rjn (I 69 0 p) (L 75 0 (I 70 0 p).toNatClampNeg) (L 75 0 (I 71 0 p).toNatClampNeg) (I 12 0 49)).2 → K [.inr (.inl (rjn (I 69 0 p) (L 75 0 (I 70 0 p).toNatClampNeg) (L 75 0 (I 71 0 p).toNatClampNeg) (I 12 0 49)).1)] (I', L, P)) : mX12_valueOf K [.inr (.inr (12, 0)), .inl (nI p)] (I, L, P) := by
  have zp : zin (nI p) 128 := n_zin hp (by decide)
  show bX12_valueOf_0 K [some (.inr (.inr (12,0))), some (.inl (nI p)), none, none, none, none] [] (I, L, P)
  unfold bX12_valueOf_0
  dsimp only [x_int, x_lng, x_ild, x_lld, x_ald, x_ist, x_ast, x_lst, x_inc, x_ii, x_id, x_i, x_ll, x_ld, x_l, x_cmp, x_i2l, x_l2i, x_if, x_ic, x_dup, x_pop, x_dup2, x_gI, x_gL, x_gR, x_g1, x_g0, x_gP, x_pI, x_pZ, x_pL, x_pP, x_al, x_as, x_all, x_asl, x_alr, x_len, x_cpy, x_m2, x_m1, x_m2l, x_m1l, x_call, x_cv, x_ri, x_rz, x_rl, x_rv, zg, zset, zbef, zlong, zcat, cond_true, cond_false, List.take, List.drop, rv1, rv2, rv3, rv4, rv5, rv6, rv7, sm0, sm1, bl0, bl1, bl2, bl3, bl4, bl5, bl6, bl7, bl8, List.nil_append, List.cons_append, List.length_cons, List.length_nil, Nat.reduceBEq, Nat.reduceAdd, Nat.reduceSub, ta, tb, tn0, tn1, tn2, tn3, tn4, tn5, tn6, tn7, tn8, tn9, tn10, tn11, tn12, zk_69, zl_69, zk_70, zl_70, zk_71, zl_71, zk_74, zl_74, zk_75, zl_75, bX12_valueOf_72]
  rw [n_cl (n := p) (by omega)]
  simp only [lc_eq]
  refine ⟨zp, fun c => ⟨zp, h0 c⟩, fun c0 => ⟨zp, fun c => ⟨zp, h1 c⟩, fun c1 => ⟨zp, ?_⟩⟩⟩
  by_cases c2 : I 69 0 p = 2
  · obtain ⟨g1, g2⟩ := h2 c2
    refine ⟨g1, zp, fun _ => ⟨fun d => ?_, fun d => ?_⟩, fun q => absurd c2 q⟩
    · rw [if_pos d] at g2; exact g2
    · rw [if_neg d] at g2; exact g2
  · obtain ⟨g1, g2, h3⟩ := h3 c0 c1 c2
    refine ⟨g1, zp, fun q => absurd q c2, fun _ => ⟨zp, g2, zp, ?_⟩⟩
    generalize L 75 0 (I 70 0 p).toNatClampNeg = a at *
    generalize L 75 0 (I 71 0 p).toNatClampNeg = b at *
    have cmpc : ¬ I 69 0 p = 3 → ¬ I 69 0 p = 4 → ¬ I 69 0 p = 11 → ¬ I 69 0 p = 12 → ¬ I 69 0 p = 13 → ¬ I 69 0 p = 14 → bX12_valueOf_259 K [some (.inr (.inr (12, 0))), some (.inl (nI p)), some (.inr (.inl a)), none, some (.inr (.inl b)), none] [] (I, L, P) := by
      intro d3 d4 d11 d12 d13 d14
      unfold rjn at h3
      rw [if_neg d3, if_neg d4, if_neg d11, if_neg d12, if_neg d13, if_neg d14] at h3
      have h3 := h3 I frE.rf rfl
      unfold bX12_valueOf_259
      dsimp only [x_int, x_lng, x_ild, x_lld, x_ald, x_ist, x_ast, x_lst, x_inc, x_ii, x_id, x_i, x_ll, x_ld, x_l, x_cmp, x_i2l, x_l2i, x_if, x_ic, x_dup, x_pop, x_dup2, x_gI, x_gL, x_gR, x_g1, x_g0, x_gP, x_pI, x_pZ, x_pL, x_pP, x_al, x_as, x_all, x_asl, x_alr, x_len, x_cpy, x_m2, x_m1, x_m2l, x_m1l, x_call, x_cv, x_ri, x_rz, x_rl, x_rv, zg, zset, zbef, zlong, zcat, cond_true, cond_false, List.take, List.drop, rv1, rv2, rv3, rv4, rv5, rv6, rv7, sm0, sm1, bl0, bl1, bl2, bl3, bl4, bl5, bl6, bl7, bl8, List.nil_append, List.cons_append, List.length_cons, List.length_nil, Nat.reduceBEq, Nat.reduceAdd, Nat.reduceSub, ta, tb, tn0, tn1, tn2, tn3, tn4, tn5, tn6, tn7, tn8, tn9, tn10, tn11, tn12, zk_69, zl_69, bX12_valueOf_279]
      rw [n_cl (n := p) (by omega)]
      refine ⟨zp, p_compares ?_⟩
      dsimp only [x_int, x_lng, x_ild, x_lld, x_ald, x_ist, x_ast, x_lst, x_inc, x_ii, x_id, x_i, x_ll, x_ld, x_l, x_cmp, x_i2l, x_l2i, x_if, x_ic, x_dup, x_pop, x_dup2, x_gI, x_gL, x_gR, x_g1, x_g0, x_gP, x_pI, x_pZ, x_pL, x_pP, x_al, x_as, x_all, x_asl, x_alr, x_len, x_cpy, x_m2, x_m1, x_m2l, x_m1l, x_call, x_cv, x_ri, x_rz, x_rl, x_rv, zg, zset, zbef, zlong, zcat, cond_true, cond_false, List.take, List.drop, rv1, rv2, rv3, rv4, rv5, rv6, rv7, sm0, sm1, bl0, bl1, bl2, bl3, bl4, bl5, bl6, bl7, bl8, List.nil_append, List.cons_append, List.length_cons, List.length_nil, Nat.reduceBEq, Nat.reduceAdd, Nat.reduceSub, ta, tb, tn0, tn1, tn2, tn3, tn4, tn5, tn6, tn7, tn8, tn9, tn10, tn11, tn12]
      refine ⟨fun c => ?_, fun c => ?_⟩
      · rw [if_pos c] at h3; exact h3
      · rw [if_neg c] at h3; exact h3
    unfold rjn at h3
    dsimp only [g_sw]
    refine ⟨fun c => ?_, fun c => ?_⟩
    · rw [if_pos c] at h3
      have h3 := h3 I frE.rf rfl
      dsimp only [x_int, x_lng, x_ild, x_lld, x_ald, x_ist, x_ast, x_lst, x_inc, x_ii, x_id, x_i, x_ll, x_ld, x_l, x_cmp, x_i2l, x_l2i, x_if, x_ic, x_dup, x_pop, x_dup2, x_gI, x_gL, x_gR, x_g1, x_g0, x_gP, x_pI, x_pZ, x_pL, x_pP, x_al, x_as, x_all, x_asl, x_alr, x_len, x_cpy, x_m2, x_m1, x_m2l, x_m1l, x_call, x_cv, x_ri, x_rz, x_rl, x_rv, zg, zset, zbef, zlong, zcat, cond_true, cond_false, List.take, List.drop, rv1, rv2, rv3, rv4, rv5, rv6, rv7, sm0, sm1, bl0, bl1, bl2, bl3, bl4, bl5, bl6, bl7, bl8, List.nil_append, List.cons_append, List.length_cons, List.length_nil, Nat.reduceBEq, Nat.reduceAdd, Nat.reduceSub, ta, tb, tn0, tn1, tn2, tn3, tn4, tn5, tn6, tn7, tn8, tn9, tn10, tn11, tn12, bX12_valueOf_173, bX12_valueOf_174] at h3 ⊢
      simp only [lc_eq]
      refine ⟨fun d => ?_, fun d => ⟨fun f => ?_, fun f => ?_⟩⟩
      · rw [if_pos d] at h3; exact h3
      · rw [if_neg d, if_pos f] at h3; exact h3
      · rw [if_neg d, if_neg f] at h3; exact h3
    rw [if_neg c] at h3
    have d3 := c
    refine ⟨fun c => ?_, fun c => ?_⟩
    · rw [if_pos c] at h3
      have h3 := h3 I frE.rf rfl
      dsimp only [x_int, x_lng, x_ild, x_lld, x_ald, x_ist, x_ast, x_lst, x_inc, x_ii, x_id, x_i, x_ll, x_ld, x_l, x_cmp, x_i2l, x_l2i, x_if, x_ic, x_dup, x_pop, x_dup2, x_gI, x_gL, x_gR, x_g1, x_g0, x_gP, x_pI, x_pZ, x_pL, x_pP, x_al, x_as, x_all, x_asl, x_alr, x_len, x_cpy, x_m2, x_m1, x_m2l, x_m1l, x_call, x_cv, x_ri, x_rz, x_rl, x_rv, zg, zset, zbef, zlong, zcat, cond_true, cond_false, List.take, List.drop, rv1, rv2, rv3, rv4, rv5, rv6, rv7, sm0, sm1, bl0, bl1, bl2, bl3, bl4, bl5, bl6, bl7, bl8, List.nil_append, List.cons_append, List.length_cons, List.length_nil, Nat.reduceBEq, Nat.reduceAdd, Nat.reduceSub, ta, tb, tn0, tn1, tn2, tn3, tn4, tn5, tn6, tn7, tn8, tn9, tn10, tn11, tn12, bX12_valueOf_188, bX12_valueOf_193] at h3 ⊢
      simp only [lc_eq]
      refine ⟨fun d => ⟨fun f => ?_, fun f => ?_⟩, fun d => ?_⟩
      · rw [if_pos d, if_pos f] at h3; exact h3
      · rw [if_pos d, if_neg f] at h3; exact h3
      · rw [if_neg d] at h3; exact h3
    rw [if_neg c] at h3
    have d4 := c
    have ne : ∀ k m : Int32, I 69 0 p = k → ¬ k = m → ¬ I 69 0 p = m := fun k m h1 h2 h3 => h2 (h1.symm.trans h3)
    refine ⟨fun c => cmpc d3 d4 (ne _ _ c (by decide)) (ne _ _ c (by decide)) (ne _ _ c (by decide)) (ne _ _ c (by decide)), fun _ => ?_⟩
    refine ⟨fun c => cmpc d3 d4 (ne _ _ c (by decide)) (ne _ _ c (by decide)) (ne _ _ c (by decide)) (ne _ _ c (by decide)), fun _ => ?_⟩
    refine ⟨fun c => cmpc d3 d4 (ne _ _ c (by decide)) (ne _ _ c (by decide)) (ne _ _ c (by decide)) (ne _ _ c (by decide)), fun _ => ?_⟩
    refine ⟨fun c => cmpc d3 d4 (ne _ _ c (by decide)) (ne _ _ c (by decide)) (ne _ _ c (by decide)) (ne _ _ c (by decide)), fun _ => ?_⟩
    refine ⟨fun c => cmpc d3 d4 (ne _ _ c (by decide)) (ne _ _ c (by decide)) (ne _ _ c (by decide)) (ne _ _ c (by decide)), fun _ => ?_⟩
    refine ⟨fun c => cmpc d3 d4 (ne _ _ c (by decide)) (ne _ _ c (by decide)) (ne _ _ c (by decide)) (ne _ _ c (by decide)), fun _ => ?_⟩
    refine ⟨fun c => ?_, fun c => ?_⟩
    · rw [if_pos c] at h3
      dsimp only [x_int, x_lng, x_ild, x_lld, x_ald, x_ist, x_ast, x_lst, x_inc, x_ii, x_id, x_i, x_ll, x_ld, x_l, x_cmp, x_i2l, x_l2i, x_if, x_ic, x_dup, x_pop, x_dup2, x_gI, x_gL, x_gR, x_g1, x_g0, x_gP, x_pI, x_pZ, x_pL, x_pP, x_al, x_as, x_all, x_asl, x_alr, x_len, x_cpy, x_m2, x_m1, x_m2l, x_m1l, x_call, x_cv, x_ri, x_rz, x_rl, x_rv, zg, zset, zbef, zlong, zcat, cond_true, cond_false, List.take, List.drop, rv1, rv2, rv3, rv4, rv5, rv6, rv7, sm0, sm1, bl0, bl1, bl2, bl3, bl4, bl5, bl6, bl7, bl8, List.nil_append, List.cons_append, List.length_cons, List.length_nil, Nat.reduceBEq, Nat.reduceAdd, Nat.reduceSub, ta, tb, tn0, tn1, tn2, tn3, tn4, tn5, tn6, tn7, tn8, tn9, tn10, tn11, tn12]
      exact p_bounded h3
    rw [if_neg c] at h3
    have d11 := c
    refine ⟨fun c => ?_, fun c => ?_⟩
    · rw [if_pos c] at h3
      dsimp only [x_int, x_lng, x_ild, x_lld, x_ald, x_ist, x_ast, x_lst, x_inc, x_ii, x_id, x_i, x_ll, x_ld, x_l, x_cmp, x_i2l, x_l2i, x_if, x_ic, x_dup, x_pop, x_dup2, x_gI, x_gL, x_gR, x_g1, x_g0, x_gP, x_pI, x_pZ, x_pL, x_pP, x_al, x_as, x_all, x_asl, x_alr, x_len, x_cpy, x_m2, x_m1, x_m2l, x_m1l, x_call, x_cv, x_ri, x_rz, x_rl, x_rv, zg, zset, zbef, zlong, zcat, cond_true, cond_false, List.take, List.drop, rv1, rv2, rv3, rv4, rv5, rv6, rv7, sm0, sm1, bl0, bl1, bl2, bl3, bl4, bl5, bl6, bl7, bl8, List.nil_append, List.cons_append, List.length_cons, List.length_nil, Nat.reduceBEq, Nat.reduceAdd, Nat.reduceSub, ta, tb, tn0, tn1, tn2, tn3, tn4, tn5, tn6, tn7, tn8, tn9, tn10, tn11, tn12]
      exact p_bounded h3
    rw [if_neg c] at h3
    have d12 := c
    refine ⟨fun c => ?_, fun c => ?_⟩
    · rw [if_pos c] at h3
      dsimp only [x_int, x_lng, x_ild, x_lld, x_ald, x_ist, x_ast, x_lst, x_inc, x_ii, x_id, x_i, x_ll, x_ld, x_l, x_cmp, x_i2l, x_l2i, x_if, x_ic, x_dup, x_pop, x_dup2, x_gI, x_gL, x_gR, x_g1, x_g0, x_gP, x_pI, x_pZ, x_pL, x_pP, x_al, x_as, x_all, x_asl, x_alr, x_len, x_cpy, x_m2, x_m1, x_m2l, x_m1l, x_call, x_cv, x_ri, x_rz, x_rl, x_rv, zg, zset, zbef, zlong, zcat, cond_true, cond_false, List.take, List.drop, rv1, rv2, rv3, rv4, rv5, rv6, rv7, sm0, sm1, bl0, bl1, bl2, bl3, bl4, bl5, bl6, bl7, bl8, List.nil_append, List.cons_append, List.length_cons, List.length_nil, Nat.reduceBEq, Nat.reduceAdd, Nat.reduceSub, ta, tb, tn0, tn1, tn2, tn3, tn4, tn5, tn6, tn7, tn8, tn9, tn10, tn11, tn12]
      exact p_times h3
    rw [if_neg c] at h3
    have d13 := c
    refine ⟨fun c => ?_, fun c => cmpc d3 d4 d11 d12 d13 c⟩
    rw [if_pos c] at h3
    dsimp only [x_int, x_lng, x_ild, x_lld, x_ald, x_ist, x_ast, x_lst, x_inc, x_ii, x_id, x_i, x_ll, x_ld, x_l, x_cmp, x_i2l, x_l2i, x_if, x_ic, x_dup, x_pop, x_dup2, x_gI, x_gL, x_gR, x_g1, x_g0, x_gP, x_pI, x_pZ, x_pL, x_pP, x_al, x_as, x_all, x_asl, x_alr, x_len, x_cpy, x_m2, x_m1, x_m2l, x_m1l, x_call, x_cv, x_ri, x_rz, x_rl, x_rv, zg, zset, zbef, zlong, zcat, cond_true, cond_false, List.take, List.drop, rv1, rv2, rv3, rv4, rv5, rv6, rv7, sm0, sm1, bl0, bl1, bl2, bl3, bl4, bl5, bl6, bl7, bl8, List.nil_append, List.cons_append, List.length_cons, List.length_nil, Nat.reduceBEq, Nat.reduceAdd, Nat.reduceSub, ta, tb, tn0, tn1, tn2, tn3, tn4, tn5, tn6, tn7, tn8, tn9, tn10, tn11, tn12, bX12_valueOf_235, bX12_valueOf_240, bX12_valueOf_258]
    rw [frE_get, frE_get]
    simp only [lc_eq]
    refine ⟨fun d => ⟨fun f => ⟨Or.inr rfl, fun q => absurd q (by decide), fun _ => ?_⟩, fun f => ⟨Or.inl rfl, fun _ => ⟨f, ?_⟩, fun q => absurd trivial q⟩⟩, fun d => ⟨Or.inr rfl, fun q => absurd q (by decide), fun _ => ?_⟩⟩
    · rw [if_pos d, if_pos f] at h3
      exact h3 _ frE_set (frE_get (I := I) (L := L) (P := P))
    · rw [if_pos d, if_neg f] at h3
      exact h3 _ frE_set (frE_get (I := I) (L := L) (P := P))
    · rw [if_neg d] at h3
      exact h3 _ frE_set (frE_get (I := I) (L := L) (P := P))
