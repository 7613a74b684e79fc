-- by chance
def chS (A : aA) (n : Nat) (x : Int32) : aS := aPass A.T true true n (su A.S 10 0 x)
def chR (T : aT) (S : aS) : Int32 := nI (aMany T S 1) - nI (aWrong T S)
def chX (A : aA) (n : Nat) (rg x : Int32) : Nat → Int32 × Nat
  | 0 => (x, 0)
  | k + 1 => (chS A n (chX A n rg x k).1 10 0, (chX A n rg x k).2 + (if chR A.T (chS A n (chX A n rg x k).1) - chR A.T A.S < rg then 0 else 1))
abbrev okC (x n r : Int32) : Prop := 0 ≤ x ∧ okI n 1 99 ∧ okI r 0 10
def v_chance (A : aA) (x n r : Int32) : Int32 := if okC x n r then nI (chX A n.toNatClampNeg r x 10).2 else -1
theorem chR_7 {T : aT} {S S' : aS} (h : off7 S S') : chR T S = chR T S' := by unfold chR; rw [off7_many h, off7_wrong h]
theorem CS.numb {I I' : zI} {j : Nat} {T : aT} {S : aS} {x : Int32} (h : CS I j T S) (e : ∀ a c, csK a c = true → ¬ (a = 8 ∧ c = 14) → I' a j c = I a j c) (ev : I' 8 j 14 = x) : CS I' j T (su S 10 0 x) := by
  obtain ⟨a1, a2, a3, a4, a5, a6, a7, a8⟩ := h
  have g8 : su S 10 0 x 8 = S 8 := by funext i; exact su_r (by omega)
  have g7 : su S 10 0 x 7 = S 7 := by funext i; exact su_r (by omega)
  refine ⟨fun y hy => ?_, fun y hy => ?_, fun y hy => ?_, ?_, ?_, ?_, ?_, ?_⟩
  · rw [e 31 y rfl (by omega), e 33 y rfl (by omega), e 32 y rfl (by omega), su_r (by omega), su_r (by omega), su_r (by omega)]; exact a1 y hy
  · rw [e 34 y rfl (by omega), e 35 y rfl (by omega), su_r (by omega), su_r (by omega)]; exact a2 y hy
  · rw [e 36 y rfl (by omega), e 37 y rfl (by omega), e 38 y rfl (by omega), e 39 y rfl (by omega), e 40 y rfl (by omega), su_r (by omega), su_r (by omega), su_r (by omega), su_r (by omega), g8]; exact a3 y hy
  · rw [e 8 _ rfl (by omega), su_r (by omega)]; exact a4
  · rw [ev, su_h ⟨rfl, rfl⟩]
  · rw [e 8 _ rfl (by omega), su_r (by omega)]; exact a6
  · rw [e 8 _ rfl (by omega), su_r (by omega)]; exact a7
  · rw [e 8 _ rfl (by omega), g7]; exact a8
theorem c_chance {K : zQ} {I : zI} {L : zJ} {P : zP} {A : aA} {x n r : Int32} (wT : WT A.T) (wS : WS A.T A.S) (hC : RC A I P) (hK : ∀ (I' : zI) (L' : zJ) (P' : zP), frQ I I' → zeL2 L L' → frP P P' → K [.inl (v_chance A x n r)] (I', L', P')) : mX11_chance K [kbR, .inl x, .inl n, .inl r] (I, L, P) := by
  obtain ⟨t0, hT0, h110, h80, hS0⟩ := hC.b
  have bad : ¬ okC x n r → K [.inl (-1)] (I, L, P) := fun z => by
    have hk := hK I L P frQ.rf zeL2.rf frP.rf
    unfold v_chance at hk
    rw [if_neg z] at hk; exact hk
  show bX11_chance_0 K [some (.inr (.inr (11,0))), some (.inl x), some (.inl n), some (.inl r), none, none, none, none] [] (I, L, P)
  unfold bX11_chance_0
  dsimp only [x_int, x_lng, x_ild, x_lld, x_ald, x_ist, x_ast, x_lst, x_inc, x_ii, x_id, x_i, x_ll, x_ld, x_l, x_cmp, x_i2l, x_l2i, x_if, x_ic, x_dup, x_pop, x_dup2, x_gI, x_gL, x_gR, x_g1, x_g0, x_gP, x_pI, x_pZ, x_pL, x_pP, x_al, x_as, x_all, x_asl, x_alr, x_len, x_cpy, x_m2, x_m1, x_m2l, x_m1l, x_call, x_cv, x_ri, x_rz, x_rl, x_rv, zg, zset, zbef, zlong, zcat, cond_true, cond_false, List.take, List.drop, rv1, rv2, rv3, rv4, rv5, rv6, rv7, sm0, sm1, bl0, bl1, bl2, bl3, bl4, bl5, bl6, bl7, bl8, List.nil_append, List.cons_append, List.length_cons, List.length_nil, Nat.reduceBEq, Nat.reduceAdd, Nat.reduceSub, ta, tb, tn0, tn1, tn2, tn3, tn4, tn5, tn6, tn7, tn8, tn9, tn10, tn11, tn12, bX11_chance_25]
  refine ⟨fun c => bad (fun z => Int32.not_lt.mpr z.1 c), fun c1 => ⟨fun c => bad (fun z => Int32.not_lt.mpr z.2.1.1 c), fun c2 => ⟨fun c => bad (fun z => Int32.not_lt.mpr z.2.1.2 c), fun c3 => ⟨fun c => bad (fun z => Int32.not_lt.mpr z.2.2.1 c), fun c4 => ⟨fun c5 => p_manyOf h80 hT0 hS0 ?_, fun c => bad (fun z => c z.2.2.2)⟩⟩⟩⟩⟩
  have good : okC x n r := ⟨Int32.not_lt.mp c1, ⟨Int32.not_lt.mp c2, Int32.not_lt.mp c3⟩, Int32.not_lt.mp c4, c5⟩
  unfold v_chance at hK
  rw [if_pos good] at hK
  have ok99 : okI n 0 99 := by
    refine ⟨?_, good.2.1.2⟩
    exact Int32.le_trans (by decide) good.2.1.1
  obtain ⟨m, rfl, hm⟩ := span_of ok99
  rw [n_cl (n := m) (by omega)] at hK
  dsimp only [x_int, x_lng, x_ild, x_lld, x_ald, x_ist, x_ast, x_lst, x_inc, x_ii, x_id, x_i, x_ll, x_ld, x_l, x_cmp, x_i2l, x_l2i, x_if, x_ic, x_dup, x_pop, x_dup2, x_gI, x_gL, x_gR, x_g1, x_g0, x_gP, x_pI, x_pZ, x_pL, x_pP, x_al, x_as, x_all, x_asl, x_alr, x_len, x_cpy, x_m2, x_m1, x_m2l, x_m1l, x_call, x_cv, x_ri, x_rz, x_rl, x_rv, zg, zset, zbef, zlong, zcat, cond_true, cond_false, List.take, List.drop, rv1, rv2, rv3, rv4, rv5, rv6, rv7, sm0, sm1, bl0, bl1, bl2, bl3, bl4, bl5, bl6, bl7, bl8, List.nil_append, List.cons_append, List.length_cons, List.length_nil, Nat.reduceBEq, Nat.reduceAdd, Nat.reduceSub, ta, tb, tn0, tn1, tn2, tn3, tn4, tn5, tn6, tn7, tn8, tn9, tn10, tn11, tn12]
  refine p_manyWrong h80 hT0 hS0 ?_
  dsimp only [x_int, x_lng, x_ild, x_lld, x_ald, x_ist, x_ast, x_lst, x_inc, x_ii, x_id, x_i, x_ll, x_ld, x_l, x_cmp, x_i2l, x_l2i, x_if, x_ic, x_dup, x_pop, x_dup2, x_gI, x_gL, x_gR, x_g1, x_g0, x_gP, x_pI, x_pZ, x_pL, x_pP, x_al, x_as, x_all, x_asl, x_alr, x_len, x_cpy, x_m2, x_m1, x_m2l, x_m1l, x_call, x_cv, x_ri, x_rz, x_rl, x_rv, zg, zset, zbef, zlong, zcat, cond_true, cond_false, List.take, List.drop, rv1, rv2, rv3, rv4, rv5, rv6, rv7, sm0, sm1, bl0, bl1, bl2, bl3, bl4, bl5, bl6, bl7, bl8, List.nil_append, List.cons_append, List.length_cons, List.length_nil, Nat.reduceBEq, Nat.reduceAdd, Nat.reduceSub, ta, tb, tn0, tn1, tn2, tn3, tn4, tn5, tn6, tn7, tn8, tn9, tn10, tn11, tn12]
  refine zinv 10 (fun i Z M => ∃ (I' : zI) (L' : zJ) (P' : zP), Z = [some kbR, some (.inl x), some (.inl (nI m)), some (.inl r), some (.inl (chR A.T A.S)), some (.inl (chX A m r x i).1), some (.inl (nI (chX A m r x i).2)), some (.inl (nI i))] ∧ M = (I', L', P') ∧ frQ I I' ∧ zeL2 L L' ∧ frP P P') ?_ ?_ ⟨I, L, P, rfl, rfl, frQ.rf, zeL2.rf, frP.rf⟩
  · rintro i Z M hi ⟨I', L', P', rfl, rfl, q1, q2, q3⟩ self hself
    have hC' := hC.q q1 q3
    dsimp only [x_int, x_lng, x_ild, x_lld, x_ald, x_ist, x_ast, x_lst, x_inc, x_ii, x_id, x_i, x_ll, x_ld, x_l, x_cmp, x_i2l, x_l2i, x_if, x_ic, x_dup, x_pop, x_dup2, x_gI, x_gL, x_gR, x_g1, x_g0, x_gP, x_pI, x_pZ, x_pL, x_pP, x_al, x_as, x_all, x_asl, x_alr, x_len, x_cpy, x_m2, x_m1, x_m2l, x_m1l, x_call, x_cv, x_ri, x_rz, x_rl, x_rv, zg, zset, zbef, zlong, zcat, cond_true, cond_false, List.take, List.drop, rv1, rv2, rv3, rv4, rv5, rv6, rv7, sm0, sm1, bl0, bl1, bl2, bl3, bl4, bl5, bl6, bl7, bl8, List.nil_append, List.cons_append, List.length_cons, List.length_nil, Nat.reduceBEq, Nat.reduceAdd, Nat.reduceSub, ta, tb, tn0, tn1, tn2, tn3, tn4, tn5, tn6, tn7, tn8, tn9, tn10, tn11, tn12]
    refine ⟨fun c => absurd c (lt_go (n := 10) rfl (by omega) hi), fun _ => p_trial hC' (fun t I1 P1 r1 r2 hT h11 h82 h80 hS2 hS0 => ?_)⟩
    dsimp only [x_int, x_lng, x_ild, x_lld, x_ald, x_ist, x_ast, x_lst, x_inc, x_ii, x_id, x_i, x_ll, x_ld, x_l, x_cmp, x_i2l, x_l2i, x_if, x_ic, x_dup, x_pop, x_dup2, x_gI, x_gL, x_gR, x_g1, x_g0, x_gP, x_pI, x_pZ, x_pL, x_pP, x_al, x_as, x_all, x_asl, x_alr, x_len, x_cpy, x_m2, x_m1, x_m2l, x_m1l, x_call, x_cv, x_ri, x_rz, x_rl, x_rv, zg, zset, zbef, zlong, zcat, cond_true, cond_false, List.take, List.drop, rv1, rv2, rv3, rv4, rv5, rv6, rv7, sm0, sm1, bl0, bl1, bl2, bl3, bl4, bl5, bl6, bl7, bl8, List.nil_append, List.cons_append, List.length_cons, List.length_nil, Nat.reduceBEq, Nat.reduceAdd, Nat.reduceSub, ta, tb, tn0, tn1, tn2, tn3, tn4, tn5, tn6, tn7, tn8, tn9, tn10, tn11, tn12]
    obtain ⟨I2, e2, v2, f2⟩ := zsI_ex I1 L' P1 8 2 14 (chX A m r x i).1
    rw [e2]
    have s2 : frQ I1 I2 := fun a b c q => f2 a b c (fun e => by rw [e.1, e.2.1] at q; exact absurd q (by decide))
    have hS3 : CS I2 2 A.T (su A.S 10 0 (chX A m r x i).1) := hS2.numb (fun a c q q2 => f2 a 2 c (fun e => q2 ⟨e.1, e.2.2⟩)) v2
    refine p_pass (fd := false) (dr := true) (n := m) (by omega) (Or.inr ⟨by decide, rfl⟩) (Or.inl ⟨rfl, rfl⟩) h82 (s2.CT hT) hS3 wT (wS.of3 (fun j => su_r (by omega))) (fun I3 L3 hL3 hI3 hS4 => ?_)
    have s3 := frS_Q hI3
    have hT3 := s3.CT (s2.CT hT)
    have o7 : off7 (aPass A.T true false m (su A.S 10 0 (chX A m r x i).1)) (chS A m (chX A m r x i).1) := off7_pass off7_rf _ _ _ _
    have e1 : (chX A m r x (i + 1)).1 = aPass A.T true false m (su A.S 10 0 (chX A m r x i).1) 10 0 := (o7 10 0 (by decide)).symm
    have e2 : (chX A m r x (i + 1)).2 = (chX A m r x i).2 + (if chR A.T (aPass A.T true false m (su A.S 10 0 (chX A m r x i).1)) - chR A.T A.S < r then 0 else 1) := by
      rw [chR_7 o7]; rfl
    generalize aPass A.T true false m (su A.S 10 0 (chX A m r x i).1) = S1 at *
    dsimp only [x_int, x_lng, x_ild, x_lld, x_ald, x_ist, x_ast, x_lst, x_inc, x_ii, x_id, x_i, x_ll, x_ld, x_l, x_cmp, x_i2l, x_l2i, x_if, x_ic, x_dup, x_pop, x_dup2, x_gI, x_gL, x_gR, x_g1, x_g0, x_gP, x_pI, x_pZ, x_pL, x_pP, x_al, x_as, x_all, x_asl, x_alr, x_len, x_cpy, x_m2, x_m1, x_m2l, x_m1l, x_call, x_cv, x_ri, x_rz, x_rl, x_rv, zg, zset, zbef, zlong, zcat, cond_true, cond_false, List.take, List.drop, rv1, rv2, rv3, rv4, rv5, rv6, rv7, sm0, sm1, bl0, bl1, bl2, bl3, bl4, bl5, bl6, bl7, bl8, List.nil_append, List.cons_append, List.length_cons, List.length_nil, Nat.reduceBEq, Nat.reduceAdd, Nat.reduceSub, ta, tb, tn0, tn1, tn2, tn3, tn4, tn5, tn6, tn7, tn8, tn9, tn10, tn11, tn12]
    rw [hS4.2.2.2.2.1]
    refine p_manyOf h82 hT3 hS4 ?_
    dsimp only [x_int, x_lng, x_ild, x_lld, x_ald, x_ist, x_ast, x_lst, x_inc, x_ii, x_id, x_i, x_ll, x_ld, x_l, x_cmp, x_i2l, x_l2i, x_if, x_ic, x_dup, x_pop, x_dup2, x_gI, x_gL, x_gR, x_g1, x_g0, x_gP, x_pI, x_pZ, x_pL, x_pP, x_al, x_as, x_all, x_asl, x_alr, x_len, x_cpy, x_m2, x_m1, x_m2l, x_m1l, x_call, x_cv, x_ri, x_rz, x_rl, x_rv, zg, zset, zbef, zlong, zcat, cond_true, cond_false, List.take, List.drop, rv1, rv2, rv3, rv4, rv5, rv6, rv7, sm0, sm1, bl0, bl1, bl2, bl3, bl4, bl5, bl6, bl7, bl8, List.nil_append, List.cons_append, List.length_cons, List.length_nil, Nat.reduceBEq, Nat.reduceAdd, Nat.reduceSub, ta, tb, tn0, tn1, tn2, tn3, tn4, tn5, tn6, tn7, tn8, tn9, tn10, tn11, tn12]
    refine p_manyWrong h82 hT3 hS4 ?_
    dsimp only [x_int, x_lng, x_ild, x_lld, x_ald, x_ist, x_ast, x_lst, x_inc, x_ii, x_id, x_i, x_ll, x_ld, x_l, x_cmp, x_i2l, x_l2i, x_if, x_ic, x_dup, x_pop, x_dup2, x_gI, x_gL, x_gR, x_g1, x_g0, x_gP, x_pI, x_pZ, x_pL, x_pP, x_al, x_as, x_all, x_asl, x_alr, x_len, x_cpy, x_m2, x_m1, x_m2l, x_m1l, x_call, x_cv, x_ri, x_rz, x_rl, x_rv, zg, zset, zbef, zlong, zcat, cond_true, cond_false, List.take, List.drop, rv1, rv2, rv3, rv4, rv5, rv6, rv7, sm0, sm1, bl0, bl1, bl2, bl3, bl4, bl5, bl6, bl7, bl8, List.nil_append, List.cons_append, List.length_cons, List.length_nil, Nat.reduceBEq, Nat.reduceAdd, Nat.reduceSub, ta, tb, tn0, tn1, tn2, tn3, tn4, tn5, tn6, tn7, tn8, tn9, tn10, tn11, tn12, bX11_chance_126]
    rw [n_succ, n_succ]
    have fin : ∀ v : Int32, v = nI (chX A m r x (i + 1)).2 → self [some kbR, some (.inl x), some (.inl (nI m)), some (.inl r), some (.inl (chR A.T A.S)), some (.inl (S1 10 0)), some (.inl v), some (.inl (nI (i + 1)))] [] (I3, L3, P1) := fun v hv => hself _ _ ⟨I3, L3, P1, by rw [hv, e1], rfl, (q1.tr r1).tr (s2.tr s3), fun a b c z1 z2 => (hL3 a b c z1 z2).trans (q2 a b c z1 z2), q3.tr r2⟩
    refine ⟨fun c => fin _ ?_, fun c => fin _ ?_⟩
    · have c : chR A.T S1 - chR A.T A.S < r := c
      rw [e2, if_pos c]; rfl
    · have c : ¬ chR A.T S1 - chR A.T A.S < r := c
      rw [e2, if_neg c]
  · rintro Z M ⟨I', L', P', rfl, rfl, q1, q2, q3⟩ self
    dsimp only [x_int, x_lng, x_ild, x_lld, x_ald, x_ist, x_ast, x_lst, x_inc, x_ii, x_id, x_i, x_ll, x_ld, x_l, x_cmp, x_i2l, x_l2i, x_if, x_ic, x_dup, x_pop, x_dup2, x_gI, x_gL, x_gR, x_g1, x_g0, x_gP, x_pI, x_pZ, x_pL, x_pP, x_al, x_as, x_all, x_asl, x_alr, x_len, x_cpy, x_m2, x_m1, x_m2l, x_m1l, x_call, x_cv, x_ri, x_rz, x_rl, x_rv, zg, zset, zbef, zlong, zcat, cond_true, cond_false, List.take, List.drop, rv1, rv2, rv3, rv4, rv5, rv6, rv7, sm0, sm1, bl0, bl1, bl2, bl3, bl4, bl5, bl6, bl7, bl8, List.nil_append, List.cons_append, List.length_cons, List.length_nil, Nat.reduceBEq, Nat.reduceAdd, Nat.reduceSub, ta, tb, tn0, tn1, tn2, tn3, tn4, tn5, tn6, tn7, tn8, tn9, tn10, tn11, tn12]
    exact ⟨fun _ => hK I' L' P' q1 q2 q3, fun c => absurd c (lt_out (n := 10) rfl)⟩
theorem p_layD {K : zQ} {I0 I : zI} {L0 L : zJ} {P : zP} {A : aA} (hR : RR A I0 L0) (e : ∀ a b c, ¬ (a = 12 ∧ b = 0 ∧ c = 63) → I a b c = I0 a b c) (hK : ∀ (I' : zI), frR I0 I' → RS I' 1 A.T A.S → K [] (I', L, P)) : mX12_layTried K [refR] (I, L, P) := by
  obtain ⟨h1, h2, h3, h4, h5, -⟩ := hR
  refine p_layTried0 (fun I1 hl => ?_)
  obtain ⟨I3, e3, hp3, e3f⟩ := plnM_eq I1 L P
  rw [e3]
  have f0 : frR I0 I3 := pln_frR h3 hp3 (fun a b c z z2 => ((frU_R hl.1) a b c z).trans (e a b c (fun w => z2 ⟨w.1, w.2.1, by omega⟩))) e3f
  have k : ∀ a c, ¬ a = 12 → I3 a 0 c = I1 a 0 c := fun a c q => e3f a 0 c (fun z => q z.1)
  have k0 : ∀ a c, ¬ a = 12 → I a 0 c = I0 a 0 c := fun a c q => e a 0 c (fun z => q z.1)
  have hfu := hl.1
  obtain ⟨-, c76, c77, c78, c79, c80, c81, c82, c83, c84, c85, c86⟩ := hl
  have cp : ∀ kk off n, ¬ kk = 12 → cpd I I1 kk off n → cpd I0 I3 kk off n := fun kk off n q h c hc => ((k kk _ q).trans (h c hc)).trans (k0 kk c q)
  have hl0 : laid I0 I3 := ⟨fun a i c q => by
    by_cases z : a = 12 ∧ i = 0 ∧ (c = 63 ∨ c = 64 ∨ c = 65 ∨ c = 66 ∨ c = 67)
    · refine f0 a i c (fun w => ?_)
      obtain ⟨z1, z2, z3⟩ := z
      have := w.2
      unfold scrR upH at this
      omega
    · by_cases w : i = 0 ∧ scrR a c
      · refine (e3f a i c z).trans ?_
        exact (hfu a i c q).trans (e a i c (fun y => z ⟨y.1, y.2.1, by omega⟩))
      · exact f0 a i c w, cp _ _ _ (by decide) c76, cp _ _ _ (by decide) c77, cp _ _ _ (by decide) c78, cp _ _ _ (by decide) c79, cp _ _ _ (by decide) c80, cp _ _ _ (by decide) c81, cp _ _ _ (by decide) c82, fun c hc => by
      have h := c83 c hc
      rw [k _ _ (by decide), h]
      unfold nbI
      rw [k0 _ _ (by decide)], cp _ _ _ (by decide) c84, cp _ _ _ (by decide) c85, ((k _ _ (by decide)).trans c86).trans (k0 _ _ (by decide))⟩
  exact hK I3 f0 (laid_RS h4 hl0 h1 h3 h2)
theorem RS_num {I : zI} {b : Nat} {T : aT} {S : aS} {x : Int32} (h : RS I b T S) : RS I b T (su S 10 0 x) := by
  obtain ⟨a1, a2, a3, a4, a5, a6⟩ := h
  refine ⟨fun y hy => ?_, fun y hy => ?_, fun y hy => ?_, ?_, ?_, ?_⟩
  · rw [su_r (by omega), su_r (by omega), su_r (by omega)]; exact a1 y hy
  · rw [su_r (by omega), su_r (by omega)]; exact a2 y hy
  · rw [su_r (f := 10) (a := 3) (by omega), su_r (f := 10) (a := 4) (by omega), su_r (f := 10) (a := 5) (by omega), su_r (f := 10) (a := 6) (by omega), su_r (f := 10) (a := 7) (by omega)]
    have e8 : ∀ b, su S 10 0 x 8 b = S 8 b := fun b => su_r (by omega)
    simp only [e8]
    exact a3 y hy
  · rw [su_r (by omega)]; exact a4
  · rw [su_r (by omega)]; exact a5
  · rw [su_r (by omega)]; exact a6
theorem i_ch (a b c d : Int32) : a - b - c + d = a - b - (c - d) := by
  rw [Int32.sub_eq_add_neg c d, Int32.sub_eq_add_neg (a - b) (c + -d), Int32.neg_add, Int32.sub_eq_add_neg (-c), Int32.neg_neg, ← Int32.add_assoc, ← Int32.sub_eq_add_neg]
theorem r_chance {K : zQ} {I : zI} {L : zJ} {P : zP} {A : aA} {x n r : Int32} (wT : WT A.T) (wS : WS A.T A.S) (wQ : WQ A.T A.S) (wL : WL A.S) (hR : RR A I L) (hK : ∀ (I' : zI) (L' : zJ), frR I I' → zeLr L L' → K [.inl (v_chance A x n r)] (I', L', P)) : mX12_chance K [refR, .inl x, .inl n, .inl r] (I, L, P) := by
  show bX12_chance_0 K [some (.inr (.inr (12,0))), some (.inl x), some (.inl n), some (.inl r), none, none, none, none, none] [] (I, L, P)
  unfold bX12_chance_0
  obtain ⟨I1, e9, hR1, f1⟩ := r_thr P hR
  dsimp only [x_ald, x_int, x_pI, zg, Nat.reduceBEq, cond_true]
  rw [e9]
  have hT := hR1.1
  have hp := hR1.2.2.1
  have bad : ¬ okC x n r → K [.inl (-1)] (I1, L, P) := fun z => by
    have hk := hK I1 L f1 zeLr.rf
    unfold v_chance at hk
    rw [if_neg z] at hk; exact hk
  dsimp only [x_int, x_lng, x_ild, x_lld, x_ald, x_ist, x_ast, x_lst, x_inc, x_ii, x_id, x_i, x_ll, x_ld, x_l, x_cmp, x_i2l, x_l2i, x_if, x_ic, x_dup, x_pop, x_dup2, x_gI, x_gL, x_gR, x_g1, x_g0, x_gP, x_pI, x_pZ, x_pL, x_pP, x_al, x_as, x_all, x_asl, x_alr, x_len, x_cpy, x_m2, x_m1, x_m2l, x_m1l, x_call, x_cv, x_ri, x_rz, x_rl, x_rv, zg, zset, zbef, zlong, zcat, cond_true, cond_false, List.take, List.drop, rv1, rv2, rv3, rv4, rv5, rv6, rv7, sm0, sm1, bl0, bl1, bl2, bl3, bl4, bl5, bl6, bl7, bl8, List.nil_append, List.cons_append, List.length_cons, List.length_nil, Nat.reduceBEq, Nat.reduceAdd, Nat.reduceSub, ta, tb, tn0, tn1, tn2, tn3, tn4, tn5, tn6, tn7, tn8, tn9, tn10, tn11, tn12, bX12_chance_29]
  refine ⟨fun c => bad (fun z => Int32.not_lt.mpr z.1 c), fun c1 => p_isIn (fun ok => ?_) (fun no => ⟨fun _ => bad (fun z => no z.2.1), fun z => absurd rfl z⟩)⟩
  dsimp only [x_int, x_lng, x_ild, x_lld, x_ald, x_ist, x_ast, x_lst, x_inc, x_ii, x_id, x_i, x_ll, x_ld, x_l, x_cmp, x_i2l, x_l2i, x_if, x_ic, x_dup, x_pop, x_dup2, x_gI, x_gL, x_gR, x_g1, x_g0, x_gP, x_pI, x_pZ, x_pL, x_pP, x_al, x_as, x_all, x_asl, x_alr, x_len, x_cpy, x_m2, x_m1, x_m2l, x_m1l, x_call, x_cv, x_ri, x_rz, x_rl, x_rv, zg, zset, zbef, zlong, zcat, cond_true, cond_false, List.take, List.drop, rv1, rv2, rv3, rv4, rv5, rv6, rv7, sm0, sm1, bl0, bl1, bl2, bl3, bl4, bl5, bl6, bl7, bl8, List.nil_append, List.cons_append, List.length_cons, List.length_nil, Nat.reduceBEq, Nat.reduceAdd, Nat.reduceSub, ta, tb, tn0, tn1, tn2, tn3, tn4, tn5, tn6, tn7, tn8, tn9, tn10, tn11, tn12, bX12_chance_29]
  refine ⟨fun z => absurd z (by decide), fun _ => p_isIn (fun ok2 => ?_) (fun no => ⟨fun _ => bad (fun z => no z.2.2), fun z => absurd rfl z⟩)⟩
  have good : okC x n r := ⟨Int32.not_lt.mp c1, ok, ok2⟩
  unfold v_chance at hK
  rw [if_pos good] at hK
  have ok99 : okI n 0 99 := ⟨Int32.le_trans (by decide) ok.1, ok.2⟩
  obtain ⟨m, rfl, hm⟩ := span_of ok99
  rw [n_cl (n := m) (by omega)] at hK
  dsimp only [x_int, x_lng, x_ild, x_lld, x_ald, x_ist, x_ast, x_lst, x_inc, x_ii, x_id, x_i, x_ll, x_ld, x_l, x_cmp, x_i2l, x_l2i, x_if, x_ic, x_dup, x_pop, x_dup2, x_gI, x_gL, x_gR, x_g1, x_g0, x_gP, x_pI, x_pZ, x_pL, x_pP, x_al, x_as, x_all, x_asl, x_alr, x_len, x_cpy, x_m2, x_m1, x_m2l, x_m1l, x_call, x_cv, x_ri, x_rz, x_rl, x_rv, zg, zset, zbef, zlong, zcat, cond_true, cond_false, List.take, List.drop, rv1, rv2, rv3, rv4, rv5, rv6, rv7, sm0, sm1, bl0, bl1, bl2, bl3, bl4, bl5, bl6, bl7, bl8, List.nil_append, List.cons_append, List.length_cons, List.length_nil, Nat.reduceBEq, Nat.reduceAdd, Nat.reduceSub, ta, tb, tn0, tn1, tn2, tn3, tn4, tn5, tn6, tn7, tn8, tn9, tn10, tn11, tn12]
  obtain ⟨L1, l1, w1, y1⟩ := zsL_ex I1 L P 12 0 61 x.toInt64
  rw [l1]
  have had : L 12 0 61 = (A.S 10 0).toInt64 := hR1.2.2.2.2.1.2
  refine ⟨fun z => absurd z (by decide), fun _ => ?_⟩
  refine zinv 10 (fun i Z M => ∃ (I0 I' : zI) (L' : zJ) (z8 : Option zV), Z = [some refR, some (.inl x), some (.inl (nI m)), some (.inl r), some (.inr (.inl (L 12 0 61))), none, some (.inl (nI (chX A m r x i).2)), some (.inl (nI i)), z8] ∧ M = (I', L', P) ∧ frR I1 I0 ∧ (∀ a b c, ¬ (a = 12 ∧ b = 0 ∧ c = 63) → I' a b c = I0 a b c) ∧ zeLd L L' ∧ 0 ≤ (chX A m r x i).1 ∧ L' 12 0 61 = (chX A m r x i).1.toInt64) ?_ ?_ ⟨I1, I1, L1, none, rfl, rfl, frR.rf, fun _ _ _ _ => rfl, fun a b c _ _ q => y1 a b c q, Int32.not_lt.mp c1, w1⟩
  · rintro i Z M hi ⟨I0, I', L', z8, rfl, rfl, q1, q2, q3, q4, q5⟩ self hself
    have hR0 : RR A I0 L := hR1.q q1 zeLr.rf
    dsimp only [x_int, x_lng, x_ild, x_lld, x_ald, x_ist, x_ast, x_lst, x_inc, x_ii, x_id, x_i, x_ll, x_ld, x_l, x_cmp, x_i2l, x_l2i, x_if, x_ic, x_dup, x_pop, x_dup2, x_gI, x_gL, x_gR, x_g1, x_g0, x_gP, x_pI, x_pZ, x_pL, x_pP, x_al, x_as, x_all, x_asl, x_alr, x_len, x_cpy, x_m2, x_m1, x_m2l, x_m1l, x_call, x_cv, x_ri, x_rz, x_rl, x_rv, zg, zset, zbef, zlong, zcat, cond_true, cond_false, List.take, List.drop, rv1, rv2, rv3, rv4, rv5, rv6, rv7, sm0, sm1, bl0, bl1, bl2, bl3, bl4, bl5, bl6, bl7, bl8, List.nil_append, List.cons_append, List.length_cons, List.length_nil, Nat.reduceBEq, Nat.reduceAdd, Nat.reduceSub, ta, tb, tn0, tn1, tn2, tn3, tn4, tn5, tn6, tn7, tn8, tn9, tn10, tn11, tn12]
    refine ⟨fun c => absurd c (lt_go (n := 10) rfl (by omega) hi), fun _ => p_layD hR0 q2 (fun I2 f2 hS2 => ?_)⟩
    dsimp only [x_int, x_lng, x_ild, x_lld, x_ald, x_ist, x_ast, x_lst, x_inc, x_ii, x_id, x_i, x_ll, x_ld, x_l, x_cmp, x_i2l, x_l2i, x_if, x_ic, x_dup, x_pop, x_dup2, x_gI, x_gL, x_gR, x_g1, x_g0, x_gP, x_pI, x_pZ, x_pL, x_pP, x_al, x_as, x_all, x_asl, x_alr, x_len, x_cpy, x_m2, x_m1, x_m2l, x_m1l, x_call, x_cv, x_ri, x_rz, x_rl, x_rv, zg, zset, zbef, zlong, zcat, cond_true, cond_false, List.take, List.drop, rv1, rv2, rv3, rv4, rv5, rv6, rv7, sm0, sm1, bl0, bl1, bl2, bl3, bl4, bl5, bl6, bl7, bl8, List.nil_append, List.cons_append, List.length_cons, List.length_nil, Nat.reduceBEq, Nat.reduceAdd, Nat.reduceSub, ta, tb, tn0, tn1, tn2, tn3, tn4, tn5, tn6, tn7, tn8, tn9, tn10, tn11, tn12]
    have hR2 : RR A I2 L := hR0.q f2 zeLr.rf
    obtain ⟨I3, e3, v3, f3⟩ := zsI_ex I2 L' P 12 0 63 1
    rw [e3]
    have hT3 : RT I3 A.T := hR2.1.fr (fun a c q => f3 _ _ _ (by have := rtK8 q; omega))
    have hS3 : RS I3 1 A.T (su A.S 10 0 (chX A m r x i).1) := RS_num (hS2.fr (fun a c q => f3 _ _ _ (by have := rsK8 q; omega)))
    have hS03 : RS I3 0 A.T A.S := hR2.2.1.fr (fun a c q => f3 _ _ _ (by have := rsK8 q; omega))
    refine ⟨Or.inr rfl, p_goMany (dr := true) (by omega) hT3 hS3 wT (wS.of3 (fun j => su_r (by omega))) (fun q hq => ?_) (by rw [su_r (by omega)]; exact wL) (Or.inr ⟨v3, rfl⟩) (fun _ => by rw [su_h ⟨rfl, rfl⟩]; exact ⟨q4, q5⟩) (fun I4 L4 hI4 hL4 hLd hN hS4 => ?_)⟩
    · rw [su_r (by omega), su_r (by omega)]; exact wQ q hq
    have e1 : (chX A m r x (i + 1)).1 = aPass A.T true true m (su A.S 10 0 (chX A m r x i).1) 10 0 := rfl
    have e2 : (chX A m r x (i + 1)).2 = (chX A m r x i).2 + (if chR A.T (aPass A.T true true m (su A.S 10 0 (chX A m r x i).1)) - chR A.T A.S < r then 0 else 1) := rfl
    have hN := hN rfl
    generalize aPass A.T true true m (su A.S 10 0 (chX A m r x i).1) = S1 at *
    have f4 := frB_R hI4
    have hT4 := frR_RT f4 hT3
    have g4 : ∀ a b c, ¬ (a = 12 ∧ b = 0 ∧ c = 63) → ¬ (b = 0 ∧ scrR a c) → I4 a b c = I0 a b c := fun a b c z1 z2 => ((f4 a b c z2).trans (f3 a b c z1)).trans (f2 a b c z2)
    have hS04 : RS I4 0 A.T A.S := by
      refine (frR_RS (I' := fun a b c => if a = 12 ∧ b = 0 ∧ c = 63 then I2 a b c else I4 a b c) (fun a b c z => ?_) hR2.1 hR2.2.2.1 hR2.2.1).fr (fun a c q => ?_)
      · dsimp only
        by_cases w : a = 12 ∧ b = 0 ∧ c = 63
        · rw [if_pos w]
        · rw [if_neg w]; exact (f4 a b c z).trans (f3 a b c w)
      · rw [if_neg (fun w => by have := rsK8 q; omega)]
    dsimp only [x_int, x_lng, x_ild, x_lld, x_ald, x_ist, x_ast, x_lst, x_inc, x_ii, x_id, x_i, x_ll, x_ld, x_l, x_cmp, x_i2l, x_l2i, x_if, x_ic, x_dup, x_pop, x_dup2, x_gI, x_gL, x_gR, x_g1, x_g0, x_gP, x_pI, x_pZ, x_pL, x_pP, x_al, x_as, x_all, x_asl, x_alr, x_len, x_cpy, x_m2, x_m1, x_m2l, x_m1l, x_call, x_cv, x_ri, x_rz, x_rl, x_rv, zg, zset, zbef, zlong, zcat, cond_true, cond_false, List.take, List.drop, rv1, rv2, rv3, rv4, rv5, rv6, rv7, sm0, sm1, bl0, bl1, bl2, bl3, bl4, bl5, bl6, bl7, bl8, List.nil_append, List.cons_append, List.length_cons, List.length_nil, Nat.reduceBEq, Nat.reduceAdd, Nat.reduceSub, ta, tb, tn0, tn1, tn2, tn3, tn4, tn5, tn6, tn7, tn8, tn9, tn10, tn11, tn12]
    refine p_areIn (b := 1) (by decide) hT4 hS4 ?_
    dsimp only [x_int, x_lng, x_ild, x_lld, x_ald, x_ist, x_ast, x_lst, x_inc, x_ii, x_id, x_i, x_ll, x_ld, x_l, x_cmp, x_i2l, x_l2i, x_if, x_ic, x_dup, x_pop, x_dup2, x_gI, x_gL, x_gR, x_g1, x_g0, x_gP, x_pI, x_pZ, x_pL, x_pP, x_al, x_as, x_all, x_asl, x_alr, x_len, x_cpy, x_m2, x_m1, x_m2l, x_m1l, x_call, x_cv, x_ri, x_rz, x_rl, x_rv, zg, zset, zbef, zlong, zcat, cond_true, cond_false, List.take, List.drop, rv1, rv2, rv3, rv4, rv5, rv6, rv7, sm0, sm1, bl0, bl1, bl2, bl3, bl4, bl5, bl6, bl7, bl8, List.nil_append, List.cons_append, List.length_cons, List.length_nil, Nat.reduceBEq, Nat.reduceAdd, Nat.reduceSub, ta, tb, tn0, tn1, tn2, tn3, tn4, tn5, tn6, tn7, tn8, tn9, tn10, tn11, tn12]
    refine p_wrongIn (b := 1) (by decide) hT4 hS4 ?_
    dsimp only [x_int, x_lng, x_ild, x_lld, x_ald, x_ist, x_ast, x_lst, x_inc, x_ii, x_id, x_i, x_ll, x_ld, x_l, x_cmp, x_i2l, x_l2i, x_if, x_ic, x_dup, x_pop, x_dup2, x_gI, x_gL, x_gR, x_g1, x_g0, x_gP, x_pI, x_pZ, x_pL, x_pP, x_al, x_as, x_all, x_asl, x_alr, x_len, x_cpy, x_m2, x_m1, x_m2l, x_m1l, x_call, x_cv, x_ri, x_rz, x_rl, x_rv, zg, zset, zbef, zlong, zcat, cond_true, cond_false, List.take, List.drop, rv1, rv2, rv3, rv4, rv5, rv6, rv7, sm0, sm1, bl0, bl1, bl2, bl3, bl4, bl5, bl6, bl7, bl8, List.nil_append, List.cons_append, List.length_cons, List.length_nil, Nat.reduceBEq, Nat.reduceAdd, Nat.reduceSub, ta, tb, tn0, tn1, tn2, tn3, tn4, tn5, tn6, tn7, tn8, tn9, tn10, tn11, tn12]
    refine p_areIn (b := 0) (by decide) hT4 hS04 ?_
    dsimp only [x_int, x_lng, x_ild, x_lld, x_ald, x_ist, x_ast, x_lst, x_inc, x_ii, x_id, x_i, x_ll, x_ld, x_l, x_cmp, x_i2l, x_l2i, x_if, x_ic, x_dup, x_pop, x_dup2, x_gI, x_gL, x_gR, x_g1, x_g0, x_gP, x_pI, x_pZ, x_pL, x_pP, x_al, x_as, x_all, x_asl, x_alr, x_len, x_cpy, x_m2, x_m1, x_m2l, x_m1l, x_call, x_cv, x_ri, x_rz, x_rl, x_rv, zg, zset, zbef, zlong, zcat, cond_true, cond_false, List.take, List.drop, rv1, rv2, rv3, rv4, rv5, rv6, rv7, sm0, sm1, bl0, bl1, bl2, bl3, bl4, bl5, bl6, bl7, bl8, List.nil_append, List.cons_append, List.length_cons, List.length_nil, Nat.reduceBEq, Nat.reduceAdd, Nat.reduceSub, ta, tb, tn0, tn1, tn2, tn3, tn4, tn5, tn6, tn7, tn8, tn9, tn10, tn11, tn12]
    refine p_wrongIn (b := 0) (by decide) hT4 hS04 ?_
    dsimp only [x_int, x_lng, x_ild, x_lld, x_ald, x_ist, x_ast, x_lst, x_inc, x_ii, x_id, x_i, x_ll, x_ld, x_l, x_cmp, x_i2l, x_l2i, x_if, x_ic, x_dup, x_pop, x_dup2, x_gI, x_gL, x_gR, x_g1, x_g0, x_gP, x_pI, x_pZ, x_pL, x_pP, x_al, x_as, x_all, x_asl, x_alr, x_len, x_cpy, x_m2, x_m1, x_m2l, x_m1l, x_call, x_cv, x_ri, x_rz, x_rl, x_rv, zg, zset, zbef, zlong, zcat, cond_true, cond_false, List.take, List.drop, rv1, rv2, rv3, rv4, rv5, rv6, rv7, sm0, sm1, bl0, bl1, bl2, bl3, bl4, bl5, bl6, bl7, bl8, List.nil_append, List.cons_append, List.length_cons, List.length_nil, Nat.reduceBEq, Nat.reduceAdd, Nat.reduceSub, ta, tb, tn0, tn1, tn2, tn3, tn4, tn5, tn6, tn7, tn8, tn9, tn10, tn11, tn12, bX12_chance_110]
    rw [i_ch, n_succ i]
    have fin : ∀ v : Int32, v = nI (chX A m r x (i + 1)).2 → ∀ z8 : Option zV, self [some refR, some (.inl x), some (.inl (nI m)), some (.inl r), some (.inr (.inl (L 12 0 61))), none, some (.inl v), some (.inl (nI (i + 1))), z8] [] (I4, L4, P) := fun v hv z8 => hself _ _ ⟨fun a b c => if a = 12 ∧ b = 0 ∧ c = 63 then I0 a b c else I4 a b c, I4, L4, z8, by rw [hv], rfl, fun a b c z => by
      dsimp only
      by_cases w : a = 12 ∧ b = 0 ∧ c = 63
      · rw [if_pos w]; exact q1 a b c z
      · rw [if_neg w]; exact (g4 a b c w z).trans (q1 a b c z), fun a b c w => by dsimp only; rw [if_neg w], q3.tr hL4, by rw [e1]; exact hN.1, by rw [e1]; exact hN.2⟩
    refine ⟨fun c => fin _ ?_ _, fun c => fin _ ?_ _⟩
    · have c : chR A.T S1 - chR A.T A.S < r := c
      rw [e2, if_pos c, Int32.add_zero]; rfl
    · have c : ¬ chR A.T S1 - chR A.T A.S < r := c
      rw [e2, if_neg c, n_succ]
  · rintro Z M ⟨I0, I', L', z8, rfl, rfl, q1, q2, q3, q4, q5⟩ self
    dsimp only [x_int, x_lng, x_ild, x_lld, x_ald, x_ist, x_ast, x_lst, x_inc, x_ii, x_id, x_i, x_ll, x_ld, x_l, x_cmp, x_i2l, x_l2i, x_if, x_ic, x_dup, x_pop, x_dup2, x_gI, x_gL, x_gR, x_g1, x_g0, x_gP, x_pI, x_pZ, x_pL, x_pP, x_al, x_as, x_all, x_asl, x_alr, x_len, x_cpy, x_m2, x_m1, x_m2l, x_m1l, x_call, x_cv, x_ri, x_rz, x_rl, x_rv, zg, zset, zbef, zlong, zcat, cond_true, cond_false, List.take, List.drop, rv1, rv2, rv3, rv4, rv5, rv6, rv7, sm0, sm1, bl0, bl1, bl2, bl3, bl4, bl5, bl6, bl7, bl8, List.nil_append, List.cons_append, List.length_cons, List.length_nil, Nat.reduceBEq, Nat.reduceAdd, Nat.reduceSub, ta, tb, tn0, tn1, tn2, tn3, tn4, tn5, tn6, tn7, tn8, tn9, tn10, tn11, tn12]
    obtain ⟨I3, e3, v3, f3⟩ := zsI_ex I' L' P 12 0 63 0
    rw [e3]
    obtain ⟨L3, l3, w3, y3⟩ := zsL_ex I3 L' P 12 0 61 (L 12 0 61)
    rw [l3]
    refine ⟨fun _ => ⟨Or.inl rfl, hK I3 L3 (f1.tr (q1.tr (fun a b c z => ?_))) (fun a b c z1 z2 => ?_)⟩, fun c => absurd c (lt_out (n := 10) rfl)⟩
    · by_cases w : a = 12 ∧ b = 0 ∧ c = 63
      · rw [w.1, w.2.1, w.2.2, v3]; exact (frR_pln q1 hp).1.symm
      · exact (f3 a b c w).trans (q2 a b c w)
    · by_cases w : a = 12 ∧ b = 0 ∧ c = 61
      · rw [w.1, w.2.1, w.2.2, w3]
      · exact (y3 a b c w).trans (q3 a b c z1 z2 w)
