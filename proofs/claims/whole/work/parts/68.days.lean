-- days
abbrev okD (A : aA) (n : Int32) : Prop := okI n 0 99 ∧ A.S 9 0 + n ≤ 9900
def s_days (A : aA) (n : Int32) : aA × Int32 := if okD A n then (updA A (aPass A.T true true n.toNatClampNeg A.S) (if n = 0 then A.U else (0, A.U.2)), aPass A.T true true n.toNatClampNeg A.S 9 0) else (A, -1)
theorem c_days {K : zQ} {I : zI} {L : zJ} {P : zP} {A : aA} {n : Int32} (wT : WT A.T) (wS : WS A.T A.S) (hC : RC A I P) (hK : ∀ (I' : zI) (L' : zJ), RC (s_days A n).1 I' P → frX I I' L L' → K [.inl (s_days A n).2] (I', L', P)) : mX11_days K [kbR, .inl n] (I, L, P) := by
  have hC0 := hC
  obtain ⟨t, h1, h2, h3, h4, h5, h6, h7, h8, h9⟩ := hC
  have hT := h1.1
  have bad : ¬ okD A n → K [.inl (-1)] (I, L, P) := fun z => by
    unfold s_days at hK
    rw [if_neg z] at hK
    exact hK I L hC0 frX.rf
  show bX11_days_0 K [some (.inr (.inr (11,0))), some (.inl n)] [] (I, L, P)
  unfold bX11_days_0
  dsimp only [x_int, x_lng, x_ild, x_lld, x_ald, x_ist, x_ast, x_lst, x_inc, x_ii, x_id, x_i, x_ll, x_ld, x_l, x_cmp, x_i2l, x_l2i, x_if, x_ic, x_dup, x_pop, x_dup2, x_gI, x_gL, x_gR, x_g1, x_g0, x_gP, x_pI, x_pZ, x_pL, x_pP, x_al, x_as, x_all, x_asl, x_alr, x_len, x_cpy, x_m2, x_m1, x_m2l, x_m1l, x_call, x_cv, x_ri, x_rz, x_rl, x_rv, zg, zset, zbef, zlong, zcat, cond_true, cond_false, List.take, List.drop, rv1, rv2, rv3, rv4, rv5, rv6, rv7, sm0, sm1, bl0, bl1, bl2, bl3, bl4, bl5, bl6, bl7, bl8, List.nil_append, List.cons_append, List.length_cons, List.length_nil, Nat.reduceBEq, Nat.reduceAdd, Nat.reduceSub, ta, tb, tn0, tn1, tn2, tn3, tn4, tn5, tn6, tn7, tn8, tn9, tn10, tn11, tn12, bX11_days_22]
  refine p_isSpan (fun ok => ?_) (fun no => ⟨fun _ => bad (fun z => no z.1), fun z => absurd rfl z⟩)
  dsimp only [x_int, x_lng, x_ild, x_lld, x_ald, x_ist, x_ast, x_lst, x_inc, x_ii, x_id, x_i, x_ll, x_ld, x_l, x_cmp, x_i2l, x_l2i, x_if, x_ic, x_dup, x_pop, x_dup2, x_gI, x_gL, x_gR, x_g1, x_g0, x_gP, x_pI, x_pZ, x_pL, x_pP, x_al, x_as, x_all, x_asl, x_alr, x_len, x_cpy, x_m2, x_m1, x_m2l, x_m1l, x_call, x_cv, x_ri, x_rz, x_rl, x_rv, zg, zset, zbef, zlong, zcat, cond_true, cond_false, List.take, List.drop, rv1, rv2, rv3, rv4, rv5, rv6, rv7, sm0, sm1, bl0, bl1, bl2, bl3, bl4, bl5, bl6, bl7, bl8, List.nil_append, List.cons_append, List.length_cons, List.length_nil, Nat.reduceBEq, Nat.reduceAdd, Nat.reduceSub, ta, tb, tn0, tn1, tn2, tn3, tn4, tn5, tn6, tn7, tn8, tn9, tn10, tn11, tn12, bX11_days_22]
  rw [h3.2.2.2.1]
  refine ⟨fun z => absurd z (by decide), fun _ => ⟨fun le => ?_, fun le => bad (fun z => le z.2)⟩⟩
  unfold s_days at hK
  rw [if_pos ⟨ok, le⟩] at hK
  obtain ⟨m, rfl, hm⟩ := span_of ok
  rw [n_cl (n := m) (by omega)] at hK
  have fin : ∀ I1 : zI, (∀ a b c, ¬ (a = 0 ∧ b = 0 ∧ c = 1) → I1 a b c = I a b c) → RCd A.T (aPass A.T true true m A.S) (if nI m = 0 then A.U else (0, A.U.2)) I1 → bX11_days_35 K [some kbR, some (.inl (nI m))] [] (I1, L, P) := fun I1 f1 hD => by
    unfold bX11_days_35
    dsimp only [x_int, x_lng, x_ild, x_lld, x_ald, x_ist, x_ast, x_lst, x_inc, x_ii, x_id, x_i, x_ll, x_ld, x_l, x_cmp, x_i2l, x_l2i, x_if, x_ic, x_dup, x_pop, x_dup2, x_gI, x_gL, x_gR, x_g1, x_g0, x_gP, x_pI, x_pZ, x_pL, x_pP, x_al, x_as, x_all, x_asl, x_alr, x_len, x_cpy, x_m2, x_m1, x_m2l, x_m1l, x_call, x_cv, x_ri, x_rz, x_rl, x_rv, zg, zset, zbef, zlong, zcat, cond_true, cond_false, List.take, List.drop, rv1, rv2, rv3, rv4, rv5, rv6, rv7, sm0, sm1, bl0, bl1, bl2, bl3, bl4, bl5, bl6, bl7, bl8, List.nil_append, List.cons_append, List.length_cons, List.length_nil, Nat.reduceBEq, Nat.reduceAdd, Nat.reduceSub, ta, tb, tn0, tn1, tn2, tn3, tn4, tn5, tn6, tn7, tn8, tn9, tn10, tn11, tn12]
    refine p_pass (fd := true) (dr := true) (n := m) (by omega) (Or.inr ⟨by decide, rfl⟩) (Or.inr ⟨by decide, rfl⟩) h2 (hT.fr (fun a b c q => f1 _ _ _ (by have := ctK8 (Or.inl q); omega))) (h3.fr (fun a c q => f1 _ _ _ (by have := csK8 q; omega))) wT wS (fun I2 L2 hL2 hI2 hS2 => ?_)
    dsimp only [x_int, x_lng, x_ild, x_lld, x_ald, x_ist, x_ast, x_lst, x_inc, x_ii, x_id, x_i, x_ll, x_ld, x_l, x_cmp, x_i2l, x_l2i, x_if, x_ic, x_dup, x_pop, x_dup2, x_gI, x_gL, x_gR, x_g1, x_g0, x_gP, x_pI, x_pZ, x_pL, x_pP, x_al, x_as, x_all, x_asl, x_alr, x_len, x_cpy, x_m2, x_m1, x_m2l, x_m1l, x_call, x_cv, x_ri, x_rz, x_rl, x_rv, zg, zset, zbef, zlong, zcat, cond_true, cond_false, List.take, List.drop, rv1, rv2, rv3, rv4, rv5, rv6, rv7, sm0, sm1, bl0, bl1, bl2, bl3, bl4, bl5, bl6, bl7, bl8, List.nil_append, List.cons_append, List.length_cons, List.length_nil, Nat.reduceBEq, Nat.reduceAdd, Nat.reduceSub, ta, tb, tn0, tn1, tn2, tn3, tn4, tn5, tn6, tn7, tn8, tn9, tn10, tn11, tn12]
    rw [hS2.2.2.2.1]
    have f : ∀ a b c, ¬ (b = 0 ∧ (a = 8 ∨ a = 0 ∨ (31 ≤ a ∧ a ≤ 41))) → I2 a b c = I a b c := fun a b c q => (hI2.e (by omega)).trans (f1 a b c (by omega))
    refine hK I2 L2 (hC0.upd (fun a b c q _ => f a b c (by omega)) hS2 (hD.cg (hI2.e (by omega)) (fun c => hI2.e (by omega)))) ⟨fun a b c q => f a b c (by omega), fun a b c q => hL2 a b c (by omega) (by omega)⟩
  refine ⟨fun c => ?_, fun c => ?_⟩
  · have m0 : m = 0 := by
      rw [show (0 : Int32) = nI 0 from rfl, n_le (by omega) (by omega)] at c
      omega
    subst m0
    exact fin I (fun _ _ _ _ => rfl) h5
  · have m0 : ¬ nI m = 0 := fun e => c (by rw [e]; exact Int32.le_refl _)
    refine p_clearD (fun I1 v1 f1 => ?_)
    dsimp only [x_int, x_lng, x_ild, x_lld, x_ald, x_ist, x_ast, x_lst, x_inc, x_ii, x_id, x_i, x_ll, x_ld, x_l, x_cmp, x_i2l, x_l2i, x_if, x_ic, x_dup, x_pop, x_dup2, x_gI, x_gL, x_gR, x_g1, x_g0, x_gP, x_pI, x_pZ, x_pL, x_pP, x_al, x_as, x_all, x_asl, x_alr, x_len, x_cpy, x_m2, x_m1, x_m2l, x_m1l, x_call, x_cv, x_ri, x_rz, x_rl, x_rv, zg, zset, zbef, zlong, zcat, cond_true, cond_false, List.take, List.drop, rv1, rv2, rv3, rv4, rv5, rv6, rv7, sm0, sm1, bl0, bl1, bl2, bl3, bl4, bl5, bl6, bl7, bl8, List.nil_append, List.cons_append, List.length_cons, List.length_nil, Nat.reduceBEq, Nat.reduceAdd, Nat.reduceSub, ta, tb, tn0, tn1, tn2, tn3, tn4, tn5, tn6, tn7, tn8, tn9, tn10, tn11, tn12]
    refine fin I1 f1 ?_
    rw [if_neg m0]
    exact ⟨v1, by show 0 ≤ 20; omega, fun i hi => absurd (show i < 0 from hi) (by omega)⟩
theorem frB_upd {I I' : zI} (h : frB 0 I I') : ony updF I I' := fun a i c q => h a i c (fun e => q ⟨e.1, by
    unfold updF scrR
    rcases e.2 with e | e | e | e | e <;> omega⟩) (fun e => q ⟨e.2.1, Or.inl (Or.inr (Or.inr (Or.inr (Or.inr ⟨e.1, Or.inr e.2.2⟩))))⟩)
theorem frB_12 {I I' : zI} (h : frB 0 I I') {c : Nat} (q : ¬ c = 49) : I' 12 0 c = I 12 0 c := h 12 0 c (fun e => by rcases e.2 with e | e | e | e | e <;> omega) (fun e => q e.2.2)
theorem r_days {K : zQ} {I : zI} {L : zJ} {P : zP} {A : aA} {n : Int32} (wT : WT A.T) (wS : WS A.T A.S) (wQ : WQ A.T A.S) (wL : WL A.S) (hR : RR A I L) (hK : ∀ (I' : zI) (L' : zJ), RR (s_days A n).1 I' L' → frY I I' → K [.inl (s_days A n).2] (I', L', P)) : mX12_days K [refR, .inl n] (I, L, P) := by
  show bX12_days_0 K [some (.inr (.inr (12,0))), some (.inl n), none] [] (I, L, P)
  unfold bX12_days_0
  obtain ⟨I1, e9, hR1, f1⟩ := r_thr P hR
  dsimp only [x_ald, x_int, x_pI, zg, Nat.reduceBEq, cond_true]
  rw [e9]
  have hT := hR1.1
  have hS := hR1.2.1
  have hp := hR1.2.2.1
  have hz := hR1.2.2.2.1
  have r10 := hT.r10
  have hU := hR1.2.2.2.2.2.2.1
  have bad : ¬ okD A n → K [.inl (-1)] (I1, L, P) := fun z => by
    unfold s_days at hK
    rw [if_neg z] at hK
    exact hK I1 L hR1 f1.Y
  dsimp only [x_int, x_lng, x_ild, x_lld, x_ald, x_ist, x_ast, x_lst, x_inc, x_ii, x_id, x_i, x_ll, x_ld, x_l, x_cmp, x_i2l, x_l2i, x_if, x_ic, x_dup, x_pop, x_dup2, x_gI, x_gL, x_gR, x_g1, x_g0, x_gP, x_pI, x_pZ, x_pL, x_pP, x_al, x_as, x_all, x_asl, x_alr, x_len, x_cpy, x_m2, x_m1, x_m2l, x_m1l, x_call, x_cv, x_ri, x_rz, x_rl, x_rv, zg, zset, zbef, zlong, zcat, cond_true, cond_false, List.take, List.drop, rv1, rv2, rv3, rv4, rv5, rv6, rv7, sm0, sm1, bl0, bl1, bl2, bl3, bl4, bl5, bl6, bl7, bl8, List.nil_append, List.cons_append, List.length_cons, List.length_nil, Nat.reduceBEq, Nat.reduceAdd, Nat.reduceSub, ta, tb, tn0, tn1, tn2, tn3, tn4, tn5, tn6, tn7, tn8, tn9, tn10, tn11, tn12, bX12_days_29]
  refine p_isIn (fun ok => ?_) (fun no => ⟨fun _ => bad (fun z => no z.1), fun z => absurd rfl z⟩)
  dsimp only [x_int, x_lng, x_ild, x_lld, x_ald, x_ist, x_ast, x_lst, x_inc, x_ii, x_id, x_i, x_ll, x_ld, x_l, x_cmp, x_i2l, x_l2i, x_if, x_ic, x_dup, x_pop, x_dup2, x_gI, x_gL, x_gR, x_g1, x_g0, x_gP, x_pI, x_pZ, x_pL, x_pP, x_al, x_as, x_all, x_asl, x_alr, x_len, x_cpy, x_m2, x_m1, x_m2l, x_m1l, x_call, x_cv, x_ri, x_rz, x_rl, x_rv, zg, zset, zbef, zlong, zcat, cond_true, cond_false, List.take, List.drop, rv1, rv2, rv3, rv4, rv5, rv6, rv7, sm0, sm1, bl0, bl1, bl2, bl3, bl4, bl5, bl6, bl7, bl8, List.nil_append, List.cons_append, List.length_cons, List.length_nil, Nat.reduceBEq, Nat.reduceAdd, Nat.reduceSub, ta, tb, tn0, tn1, tn2, tn3, tn4, tn5, tn6, tn7, tn8, tn9, tn10, tn11, tn12, zk_86, zl_86, bX12_days_29]
  have a4 := hS.2.2.2.1
  rw [a4]
  refine ⟨fun z => absurd z (by decide), fun _ => ⟨by unfold zin; decide, fun le => p_plainTried hp ?_, fun le => bad (fun z => le z.2)⟩⟩
  unfold s_days at hK
  rw [if_pos ⟨ok, le⟩] at hK
  obtain ⟨m, rfl, hm⟩ := span_of ok
  rw [n_cl (n := m) (by omega)] at hK
  dsimp only [x_int, x_lng, x_ild, x_lld, x_ald, x_ist, x_ast, x_lst, x_inc, x_ii, x_id, x_i, x_ll, x_ld, x_l, x_cmp, x_i2l, x_l2i, x_if, x_ic, x_dup, x_pop, x_dup2, x_gI, x_gL, x_gR, x_g1, x_g0, x_gP, x_pI, x_pZ, x_pL, x_pP, x_al, x_as, x_all, x_asl, x_alr, x_len, x_cpy, x_m2, x_m1, x_m2l, x_m1l, x_call, x_cv, x_ri, x_rz, x_rl, x_rv, zg, zset, zbef, zlong, zcat, cond_true, cond_false, List.take, List.drop, rv1, rv2, rv3, rv4, rv5, rv6, rv7, sm0, sm1, bl0, bl1, bl2, bl3, bl4, bl5, bl6, bl7, bl8, List.nil_append, List.cons_append, List.length_cons, List.length_nil, Nat.reduceBEq, Nat.reduceAdd, Nat.reduceSub, ta, tb, tn0, tn1, tn2, tn3, tn4, tn5, tn6, tn7, tn8, tn9, tn10, tn11, tn12]
  obtain ⟨I2, e2, v2, f2⟩ := zsI_ex I1 L P 12 0 63 1
  rw [e2]
  refine ⟨Or.inr rfl, ?_⟩
  have hT2 : RT I2 A.T := hT.fr (fun a c q => f2 _ _ _ (by have := rtK8 q; omega))
  have hS2 : RS I2 0 A.T A.S := hS.fr (fun a c q => f2 _ _ _ (by have := rsK8 q; omega))
  refine zinv m (fun i Z M => ∃ (I' : zI) (L' : zJ), Z = [some refR, some (.inl (nI m)), some (.inl (nI i))] ∧ M = (I', L', P) ∧ frB 0 I2 I' ∧ zeLd L L' ∧ RN L' true (aPass A.T true true i A.S 10 0) ∧ RS I' 0 A.T (aPass A.T true true i A.S)) ?_ ?_ ⟨I2, L, rfl, rfl, frB.rf, fun _ _ _ _ _ _ => rfl, fun _ => hR1.2.2.2.2.1, hS2⟩
  · rintro i Z M hi ⟨I', L', rfl, rfl, hI, hL, hN, hS'⟩ self hself
    dsimp only [x_int, x_lng, x_ild, x_lld, x_ald, x_ist, x_ast, x_lst, x_inc, x_ii, x_id, x_i, x_ll, x_ld, x_l, x_cmp, x_i2l, x_l2i, x_if, x_ic, x_dup, x_pop, x_dup2, x_gI, x_gL, x_gR, x_g1, x_g0, x_gP, x_pI, x_pZ, x_pL, x_pP, x_al, x_as, x_all, x_asl, x_alr, x_len, x_cpy, x_m2, x_m1, x_m2l, x_m1l, x_call, x_cv, x_ri, x_rz, x_rl, x_rv, zg, zset, zbef, zlong, zcat, cond_true, cond_false, List.take, List.drop, rv1, rv2, rv3, rv4, rv5, rv6, rv7, sm0, sm1, bl0, bl1, bl2, bl3, bl4, bl5, bl6, bl7, bl8, List.nil_append, List.cons_append, List.length_cons, List.length_nil, Nat.reduceBEq, Nat.reduceAdd, Nat.reduceSub, ta, tb, tn0, tn1, tn2, tn3, tn4, tn5, tn6, tn7, tn8, tn9, tn10, tn11, tn12]
    refine ⟨fun c => absurd c (lt_go rfl (by omega) hi), fun _ => p_dayGoes (b := 0) (by decide) (hI.RT hT2) hS' wT (wS.of3 (fun q => aPass_3 i)) (wQ.pass true true i) (by rw [aPass_13]; exact wL) (Or.inr ⟨(frB_12 hI (by decide)).trans v2, rfl⟩) hN (fun I3 L3 hI3 hL3 hLd3 hN3 hS3 => ?_)⟩
    dsimp only [x_int, x_lng, x_ild, x_lld, x_ald, x_ist, x_ast, x_lst, x_inc, x_ii, x_id, x_i, x_ll, x_ld, x_l, x_cmp, x_i2l, x_l2i, x_if, x_ic, x_dup, x_pop, x_dup2, x_gI, x_gL, x_gR, x_g1, x_g0, x_gP, x_pI, x_pZ, x_pL, x_pP, x_al, x_as, x_all, x_asl, x_alr, x_len, x_cpy, x_m2, x_m1, x_m2l, x_m1l, x_call, x_cv, x_ri, x_rz, x_rl, x_rv, zg, zset, zbef, zlong, zcat, cond_true, cond_false, List.take, List.drop, rv1, rv2, rv3, rv4, rv5, rv6, rv7, sm0, sm1, bl0, bl1, bl2, bl3, bl4, bl5, bl6, bl7, bl8, List.nil_append, List.cons_append, List.length_cons, List.length_nil, Nat.reduceBEq, Nat.reduceAdd, Nat.reduceSub, ta, tb, tn0, tn1, tn2, tn3, tn4, tn5, tn6, tn7, tn8, tn9, tn10, tn11, tn12]
    rw [n_succ]
    exact hself _ _ ⟨I3, L3, rfl, rfl, hI.tr hI3, hL.tr hL3, hN3, hS3⟩
  · rintro Z M ⟨I', L', rfl, rfl, hI, hL, hN, hS'⟩ self
    dsimp only [x_int, x_lng, x_ild, x_lld, x_ald, x_ist, x_ast, x_lst, x_inc, x_ii, x_id, x_i, x_ll, x_ld, x_l, x_cmp, x_i2l, x_l2i, x_if, x_ic, x_dup, x_pop, x_dup2, x_gI, x_gL, x_gR, x_g1, x_g0, x_gP, x_pI, x_pZ, x_pL, x_pP, x_al, x_as, x_all, x_asl, x_alr, x_len, x_cpy, x_m2, x_m1, x_m2l, x_m1l, x_call, x_cv, x_ri, x_rz, x_rl, x_rv, zg, zset, zbef, zlong, zcat, cond_true, cond_false, List.take, List.drop, rv1, rv2, rv3, rv4, rv5, rv6, rv7, sm0, sm1, bl0, bl1, bl2, bl3, bl4, bl5, bl6, bl7, bl8, List.nil_append, List.cons_append, List.length_cons, List.length_nil, Nat.reduceBEq, Nat.reduceAdd, Nat.reduceSub, ta, tb, tn0, tn1, tn2, tn3, tn4, tn5, tn6, tn7, tn8, tn9, tn10, tn11, tn12, bX12_days_76]
    obtain ⟨I3, e3, v3, f3⟩ := zsI_ex I' L' P 12 0 63 0
    rw [e3]
    dsimp only
    have u3 : I3 12 0 73 = nI A.U.1 := ((f3 _ _ _ (by decide)).trans (frB_12 hI (by decide))).trans ((f2 _ _ _ (by decide)).trans hU.1)
    rw [u3]
    have fin : ∀ v : Int32, v = nI (if nI m = 0 then A.U else (0, A.U.2)).1 → zin 0 (zlen 86) ∧ K [.inl ((zsI (I3, L', P) 12 0 73 v).1 86 0 0)] (zsI (I3, L', P) 12 0 73 v) := fun v hv => by
      refine ⟨by unfold zin; decide, ?_⟩
      obtain ⟨I4, e4, v4, f4⟩ := zsI_ex I3 L' P 12 0 73 v
      rw [e4]
      dsimp only
      have g : ony updF I1 I4 := fun a b c q => by
        refine (f4 a b c (fun z => q ⟨z.2.1, by unfold updF; omega⟩)).trans ((f3 a b c (fun z => q ⟨z.2.1, by unfold updF; omega⟩)).trans ((frB_upd hI a b c q).trans (f2 a b c (fun z => q ⟨z.2.1, by unfold updF; omega⟩))))
      have k : ∀ a c, ¬ a = 12 → I4 a 0 c = I' a 0 c := fun a c q => (f4 a 0 c (by omega)).trans (f3 a 0 c (by omega))
      have hp4 : pln I4 := by
        obtain ⟨z1, z2, z3, z4, z5⟩ := hp
        have l : ∀ c, 64 ≤ c → c ≤ 67 → I4 12 0 c = I1 12 0 c := fun c q1 q2 => (f4 _ _ _ (by omega)).trans ((f3 _ _ _ (by omega)).trans ((frB_12 hI (by omega)).trans (f2 _ _ _ (by omega))))
        exact ⟨(f4 _ _ _ (by decide)).trans v3, (l _ (by decide) (by decide)).trans z2, (l _ (by decide) (by decide)).trans z3, (l _ (by decide) (by decide)).trans z4, (l _ (by decide) (by decide)).trans z5⟩
      have hS4 : RS I4 0 A.T (aPass A.T true true m A.S) := hS'.fr (fun a c q => (f4 a 0 c (by have := rsK8 q; omega)).trans (f3 a 0 c (by have := rsK8 q; omega)))
      rw [hS4.2.2.2.1]
      refine hK I4 L' (hR1.upd g hL hp4 hS4 (fun c hc => ?_) (hN rfl) ⟨v4.trans hv, fun i hi => ?_⟩) (f1.Y.tr (ony_Y g updF_Y))
      · have h7 := (hS4.2.2.1 c hc).2.2.2.2.1
        rw [show 10 * 0 + c = c by omega] at h7
        rw [h7]; exact ((wQ.pass true true m) c hc).2
      · by_cases z : nI m = 0
        · rw [if_pos z] at hi ⊢
          exact (hU.2 i hi).q (fun c => (k _ _ (by omega)).trans ((hI 91 0 c (fun e => by rcases e.2 with e | e | e | e | e <;> omega) (by omega)).trans (f2 _ _ _ (by omega))))
        · rw [if_neg z] at hi
          exact absurd (show i < 0 from hi) (by omega)
    refine ⟨fun _ => ⟨Or.inl rfl, fun c => fin _ ?_, fun c => fin _ ?_⟩, fun c => absurd c (lt_out rfl)⟩
    · have m0 : m = 0 := by
        rw [show (0 : Int32) = nI 0 from rfl, n_le (by omega) (by omega)] at c
        omega
      subst m0
      rfl
    · have m0 : ¬ nI m = 0 := fun e => c (by rw [e]; exact Int32.le_refl _)
      rw [if_neg m0]; rfl
