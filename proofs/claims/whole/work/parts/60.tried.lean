theorem plnM_eq (I : zI) (L : zJ) (P : zP) : ∃ I3, plnM (I, L, P) = (I3, L, P) ∧ pln I3 ∧ ∀ a b c, ¬ (a = 12 ∧ b = 0 ∧ (c = 63 ∨ c = 64 ∨ c = 65 ∨ c = 66 ∨ c = 67)) → I3 a b c = I a b c := by
  refine ⟨_, rfl, ⟨by simp [zsI], by simp [zsI], by simp [zsI], by simp [zsI], by simp [zsI]⟩, fun a b c q => ?_⟩
  have q1 : ¬ (a = 12 ∧ b = 0 ∧ c = 63) := fun e => q ⟨e.1, e.2.1, by omega⟩
  have q2 : ¬ (a = 12 ∧ b = 0 ∧ c = 64) := fun e => q ⟨e.1, e.2.1, by omega⟩
  have q3 : ¬ (a = 12 ∧ b = 0 ∧ c = 65) := fun e => q ⟨e.1, e.2.1, by omega⟩
  have q4 : ¬ (a = 12 ∧ b = 0 ∧ c = 66) := fun e => q ⟨e.1, e.2.1, by omega⟩
  have q5 : ¬ (a = 12 ∧ b = 0 ∧ c = 67) := fun e => q ⟨e.1, e.2.1, by omega⟩
  simp only [zsI, q1, q2, q3, q4, q5, if_false]
/-- back to plain: what is read of the five is as it was -/
theorem pln_frR {I0 I I3 : zI} (h0 : pln I0) (h3 : pln I3) (h : ∀ a b c, ¬ (b = 0 ∧ scrR a c) → ¬ (a = 12 ∧ b = 0 ∧ (c = 63 ∨ c = 64 ∨ c = 65 ∨ c = 66 ∨ c = 67)) → I a b c = I0 a b c) (e : ∀ a b c, ¬ (a = 12 ∧ b = 0 ∧ (c = 63 ∨ c = 64 ∨ c = 65 ∨ c = 66 ∨ c = 67)) → I3 a b c = I a b c) : frR I0 I3 := fun a b c q => by
  by_cases z : a = 12 ∧ b = 0 ∧ (c = 63 ∨ c = 64 ∨ c = 65 ∨ c = 66 ∨ c = 67)
  · obtain ⟨rfl, rfl, z⟩ := z
    obtain ⟨a1, a2, a3, a4, a5⟩ := h0
    obtain ⟨b1, b2, b3, b4, b5⟩ := h3
    rcases z with rfl | rfl | rfl | rfl | rfl
    · exact b1.trans a1.symm
    · exact b2.trans a2.symm
    · exact b3.trans a3.symm
    · exact b4.trans a4.symm
    · exact b5.trans a5.symm
  · exact (e a b c z).trans (h a b c q z)
/-- a scene by what is plain -/
def plS (I : zI) (S : aS) : aS := fun f i => if f = 0 then coldR I 1 i else if f = 11 then agedR I i else if f = 12 then hardR I i else if f = 13 then likeR I else if f = 14 then -1 else S f i
theorem plS_RS {I I' : zI} {T : aT} {S : aS} (hS : RS I 1 T S) (hp : pln I') (e : ∀ a c, rsK a c = true → ¬ a = 12 → I' a 0 c = I a 0 c) : RS I' 1 T (plS I' S) := by
  obtain ⟨a1, a2, a3, a4, a5, a6⟩ := hS
  refine ⟨fun x hx => ⟨rfl, ?_, rfl⟩, fun x hx => ⟨rfl, ?_⟩, fun x hx => ?_, ?_, rfl, ?_⟩
  · rw [e 77 _ rfl (by decide)]; exact (a1 x hx).2.1
  · rw [e 78 _ rfl (by decide)]; exact (a2 x hx).2
  · have := a3 x hx
    rw [e 79 _ rfl (by decide), e 80 _ rfl (by decide), e 81 _ rfl (by decide), e 82 _ rfl (by decide), e 83 _ rfl (by decide), e 84 _ rfl (by decide)]
    simp only [e 85 _ rfl (by decide)]
    exact this
  · rw [e 86 _ rfl (by decide)]; exact a4
  · rw [hp.2.1, if_neg (by decide)]; rfl
theorem plS_wrong {I : zI} {T : aT} {S : aS} : aWrong T (plS I S) = aWrong T S := rfl
theorem plS_many {I : zI} {T : aT} {S : aS} {w : Int32} : aMany T (plS I S) w = aMany T S w := rfl
theorem RS_tr {I I' : zI} {T : aT} {S : aS} {q i : Int32} (h6 : T.1 0 ≤ 6) (hp : pln I) (hS : RS I 1 T S) (eq : I' 12 0 64 = q) (ei : I' 12 0 65 = i) (e : ∀ a c, rsK a c = true → ¬ (a = 12 ∧ (c = 64 ∨ c = 65)) → I' a 0 c = I a 0 c) : RS I' 1 T (trS q i S) := by
  obtain ⟨p1, p2, p3, p4, p5⟩ := hp
  obtain ⟨a1, a2, a3, a4, a5, a6⟩ := hS
  have c1 : I' 12 0 66 = -1 := (e 12 _ rfl (by simp)).trans p4
  have hd : ∀ x, x < 6 → ¬ nI x = -1 := fun x hx z => by
    have h0 := congrArg Int32.toInt z
    rw [n_toInt (by omega)] at h0
    have : (-1 : Int32).toInt = -1 := rfl
    omega
  refine ⟨fun x hx => ⟨?_, ?_, ?_⟩, fun x hx => ⟨?_, ?_⟩, fun x hx => ?_, ?_, ?_, ?_⟩
  · have b1 := (a1 x hx).1
    unfold coldR at b1 ⊢
    rw [p2, p4, if_neg (by decide), if_neg (hd x (by omega))] at b1
    rw [eq, c1, if_neg (hd x (by omega)), e 76 _ rfl (by simp), b1]
    by_cases z : q = 0 <;> simp [trS, z]
  · rw [e 77 _ rfl (by simp), trS_o (by omega)]; exact (a1 x hx).2.1
  · have b1 := (a1 x hx).2.2
    unfold agedR at b1 ⊢
    rw [p2, if_neg (by decide)] at b1
    rw [eq, e 57 _ rfl (by simp), b1]
    by_cases z : q = 1 <;> simp [trS, z]
  · have b1 := (a2 x hx).1
    unfold hardR at b1 ⊢
    rw [p2, if_neg (by decide)] at b1
    rw [eq, e 61 _ rfl (by simp), b1]
    by_cases z : q = 4 <;> simp [trS, z]
  · rw [e 78 _ rfl (by simp), trS_o (by omega)]; exact (a2 x hx).2
  · have := a3 x hx
    rw [e 79 _ rfl (by simp), e 80 _ rfl (by simp), e 81 _ rfl (by simp), e 82 _ rfl (by simp), e 83 _ rfl (by simp), e 84 _ rfl (by simp), trS_o (f := 3) (by omega), trS_o (f := 4) (by omega), trS_o (f := 5) (by omega), trS_o (f := 6) (by omega), trS_o (f := 7) (by omega)]
    simp only [e 85 _ rfl (by simp), trS_o (q := q) (i := i) (S := S) (f := 8) (by omega)]
    exact this
  · rw [e 86 _ rfl (by simp), trS_o (by omega)]; exact a4
  · unfold likeR at a5 ⊢
    rw [p2, if_neg (by decide)] at a5
    rw [eq, e 54 _ rfl (by simp), a5]
    by_cases z : q = 3 <;> simp [trS, z]
  · rw [p2, if_neg (by decide)] at a6
    rw [eq, ei]
    by_cases z : q = 2
    · simp [trS, z]
    · simp [trS, z, a6]
theorem trS_WQ {T : aT} {S : aS} {q i : Int32} (h : WQ T S) : WQ T (trS q i S) := fun r hr => by
  rw [trS_o (by omega), trS_o (by omega)]; exact h r hr
theorem trS_WL {S : aS} {q i : Int32} (h : WL S) : WL (trS q i S) := by
  unfold WL
  by_cases z : q = 3
  · have : trS q i S 13 0 = 24 := by simp [trS, z]
    rw [this]; decide
  · have : trS q i S 13 0 = S 13 0 := by simp [trS, z]
    rw [this]; exact h
theorem r_tried {K : zQ} {I : zI} {L : zJ} {P : zP} {A : aA} {q i n : Int32} (wT : WT A.T) (wS : WS A.T A.S) (wQ : WQ A.T A.S) (wL : WL A.S) (hR : RR A I L) (hK : ∀ (I' : zI) (L' : zJ), frR I I' → zeLr L L' → K [.inl (v_tried A q i n)] (I', L', P)) : mX12_tried K [refR, .inl q, .inl i, .inl n] (I, L, P) := by
  show bX12_tried_0 K [some (.inr (.inr (12,0))), some (.inl q), some (.inl i), some (.inl n)] [] (I, L, P)
  unfold bX12_tried_0
  obtain ⟨I1, e9, hR1, f1⟩ := r_thr P hR
  dsimp only [x_ald, x_int, x_pI, zg, Nat.reduceBEq, cond_true]
  rw [e9]
  have bad : ¬ okT A q i n → K [.inl (-1)] (I1, L, P) := fun h => by
    have hk := hK I1 L f1 zeLr.rf
    unfold v_tried at hk
    rw [if_neg h] at hk; exact hk
  have good : okT A q i n → bX12_tried_46 K [some refR, some (.inl q), some (.inl i), some (.inl n)] [] (I1, L, P) := fun h => by
    unfold v_tried at hK
    rw [if_pos h] at hK
    obtain ⟨hq, hn, hi⟩ := h
    obtain ⟨m, rfl, hm⟩ := span_of hn
    rw [n_cl (show m < 2147483648 by omega)] at hK
    unfold bX12_tried_46
    dsimp only [x_int, x_lng, x_ild, x_lld, x_ald, x_ist, x_ast, x_lst, x_inc, x_ii, x_id, x_i, x_ll, x_ld, x_l, x_cmp, x_i2l, x_l2i, x_if, x_ic, x_dup, x_pop, x_dup2, x_gI, x_gL, x_gR, x_g1, x_g0, x_gP, x_pI, x_pZ, x_pL, x_pP, x_al, x_as, x_all, x_asl, x_alr, x_len, x_cpy, x_m2, x_m1, x_m2l, x_m1l, x_call, x_cv, x_ri, x_rz, x_rl, x_rv, zg, zset, zbef, zlong, zcat, cond_true, cond_false, List.take, List.drop, rv1, rv2, rv3, rv4, rv5, rv6, rv7, sm0, sm1, bl0, bl1, bl2, bl3, bl4, bl5, bl6, bl7, bl8, List.nil_append, List.cons_append, List.length_cons, List.length_nil, Nat.reduceBEq, Nat.reduceAdd, Nat.reduceSub, ta, tb, tn0, tn1, tn2, tn3, tn4, tn5, tn6, tn7, tn8, tn9, tn10, tn11, tn12]
    refine p_layR hR1 (fun I9 f9 hR9 hS9 => ?_)
    dsimp only [x_int, x_lng, x_ild, x_lld, x_ald, x_ist, x_ast, x_lst, x_inc, x_ii, x_id, x_i, x_ll, x_ld, x_l, x_cmp, x_i2l, x_l2i, x_if, x_ic, x_dup, x_pop, x_dup2, x_gI, x_gL, x_gR, x_g1, x_g0, x_gP, x_pI, x_pZ, x_pL, x_pP, x_al, x_as, x_all, x_asl, x_alr, x_len, x_cpy, x_m2, x_m1, x_m2l, x_m1l, x_call, x_cv, x_ri, x_rz, x_rl, x_rv, zg, zset, zbef, zlong, zcat, cond_true, cond_false, List.take, List.drop, rv1, rv2, rv3, rv4, rv5, rv6, rv7, sm0, sm1, bl0, bl1, bl2, bl3, bl4, bl5, bl6, bl7, bl8, List.nil_append, List.cons_append, List.length_cons, List.length_nil, Nat.reduceBEq, Nat.reduceAdd, Nat.reduceSub, ta, tb, tn0, tn1, tn2, tn3, tn4, tn5, tn6, tn7, tn8, tn9, tn10, tn11, tn12]
    have hp9 := hR9.2.2.1
    have e10 : ∃ I10, zsI (zsI (I9, L, P) 12 0 64 q) 12 0 65 i = (I10, L, P) ∧ I10 12 0 64 = q ∧ I10 12 0 65 = i ∧ ∀ a b c, ¬ (a = 12 ∧ b = 0 ∧ (c = 64 ∨ c = 65)) → I10 a b c = I9 a b c := by
      refine ⟨_, rfl, by simp [zsI], by simp [zsI], fun a b c z => ?_⟩
      have z1 : ¬ (a = 12 ∧ b = 0 ∧ c = 64) := fun e => z ⟨e.1, e.2.1, by omega⟩
      have z2 : ¬ (a = 12 ∧ b = 0 ∧ c = 65) := fun e => z ⟨e.1, e.2.1, by omega⟩
      simp only [zsI, z1, z2, if_false]
    obtain ⟨I10, e10, eq, ei, e10f⟩ := e10
    rw [e10]
    have hT10 : RT I10 A.T := hR9.1.fr (fun a c z => e10f a 0 c (fun e => by rw [e.1] at z; rcases e.2.2 with e | e <;> rw [e] at z <;> exact absurd z (by decide)))
    refine p_goMany (dr := false) (by omega) hT10 (RS_tr hR9.1.h6 hp9 hS9 eq ei (fun a c z z2 => e10f a 0 c (fun e => z2 ⟨e.1, e.2.2⟩))) wT (wS.of3 (fun j => trS_o (by omega))) (trS_WQ wQ) (trS_WL wL) (Or.inl ⟨(e10f 12 0 _ (by simp)).trans hp9.1, rfl⟩) (fun z => absurd z (by decide)) (fun I2 L2 hI2 hL2 hLd hN hS2 => ?_)
    dsimp only [x_int, x_lng, x_ild, x_lld, x_ald, x_ist, x_ast, x_lst, x_inc, x_ii, x_id, x_i, x_ll, x_ld, x_l, x_cmp, x_i2l, x_l2i, x_if, x_ic, x_dup, x_pop, x_dup2, x_gI, x_gL, x_gR, x_g1, x_g0, x_gP, x_pI, x_pZ, x_pL, x_pP, x_al, x_as, x_all, x_asl, x_alr, x_len, x_cpy, x_m2, x_m1, x_m2l, x_m1l, x_call, x_cv, x_ri, x_rz, x_rl, x_rv, zg, zset, zbef, zlong, zcat, cond_true, cond_false, List.take, List.drop, rv1, rv2, rv3, rv4, rv5, rv6, rv7, sm0, sm1, bl0, bl1, bl2, bl3, bl4, bl5, bl6, bl7, bl8, List.nil_append, List.cons_append, List.length_cons, List.length_nil, Nat.reduceBEq, Nat.reduceAdd, Nat.reduceSub, ta, tb, tn0, tn1, tn2, tn3, tn4, tn5, tn6, tn7, tn8, tn9, tn10, tn11, tn12]
    refine p_plain0 ?_
    obtain ⟨I3, e3, hp3, e3f⟩ := plnM_eq I2 L2 P
    rw [e3]
    have f3 : frR I9 I3 := pln_frR hp9 hp3 (fun a b c z z2 => ((frB_R hI2) a b c z).trans (e10f a b c (fun e => z2 ⟨e.1, e.2.1, by omega⟩))) e3f
    have hL3 : zeLr L L2 := fun a b c q1 q2 => by
      by_cases e : a = 12 ∧ b = 0 ∧ c = 61
      · rw [e.1, e.2.1, e.2.2]; exact hLd rfl
      · exact hL2 a b c q1 q2 e
    have hR3 := hR9.q f3 hL3
    have hS3 := plS_RS hS2 hp3 (fun a c z z2 => e3f a 0 c (fun e => z2 e.1))
    have hk := hK I3 L2 ((f1.tr f9).tr f3) hL3
    dsimp only [x_int, x_lng, x_ild, x_lld, x_ald, x_ist, x_ast, x_lst, x_inc, x_ii, x_id, x_i, x_ll, x_ld, x_l, x_cmp, x_i2l, x_l2i, x_if, x_ic, x_dup, x_pop, x_dup2, x_gI, x_gL, x_gR, x_g1, x_g0, x_gP, x_pI, x_pZ, x_pL, x_pP, x_al, x_as, x_all, x_asl, x_alr, x_len, x_cpy, x_m2, x_m1, x_m2l, x_m1l, x_call, x_cv, x_ri, x_rz, x_rl, x_rv, zg, zset, zbef, zlong, zcat, cond_true, cond_false, List.take, List.drop, rv1, rv2, rv3, rv4, rv5, rv6, rv7, sm0, sm1, bl0, bl1, bl2, bl3, bl4, bl5, bl6, bl7, bl8, List.nil_append, List.cons_append, List.length_cons, List.length_nil, Nat.reduceBEq, Nat.reduceAdd, Nat.reduceSub, ta, tb, tn0, tn1, tn2, tn3, tn4, tn5, tn6, tn7, tn8, tn9, tn10, tn11, tn12]
    refine p_wrongIn (b := 1) (by decide) hR3.1 hS3 ?_
    dsimp only [x_int, x_lng, x_ild, x_lld, x_ald, x_ist, x_ast, x_lst, x_inc, x_ii, x_id, x_i, x_ll, x_ld, x_l, x_cmp, x_i2l, x_l2i, x_if, x_ic, x_dup, x_pop, x_dup2, x_gI, x_gL, x_gR, x_g1, x_g0, x_gP, x_pI, x_pZ, x_pL, x_pP, x_al, x_as, x_all, x_asl, x_alr, x_len, x_cpy, x_m2, x_m1, x_m2l, x_m1l, x_call, x_cv, x_ri, x_rz, x_rl, x_rv, zg, zset, zbef, zlong, zcat, cond_true, cond_false, List.take, List.drop, rv1, rv2, rv3, rv4, rv5, rv6, rv7, sm0, sm1, bl0, bl1, bl2, bl3, bl4, bl5, bl6, bl7, bl8, List.nil_append, List.cons_append, List.length_cons, List.length_nil, Nat.reduceBEq, Nat.reduceAdd, Nat.reduceSub, ta, tb, tn0, tn1, tn2, tn3, tn4, tn5, tn6, tn7, tn8, tn9, tn10, tn11, tn12]
    refine p_areIn (b := 1) (by decide) hR3.1 hS3 ?_
    dsimp only [x_int, x_lng, x_ild, x_lld, x_ald, x_ist, x_ast, x_lst, x_inc, x_ii, x_id, x_i, x_ll, x_ld, x_l, x_cmp, x_i2l, x_l2i, x_if, x_ic, x_dup, x_pop, x_dup2, x_gI, x_gL, x_gR, x_g1, x_g0, x_gP, x_pI, x_pZ, x_pL, x_pP, x_al, x_as, x_all, x_asl, x_alr, x_len, x_cpy, x_m2, x_m1, x_m2l, x_m1l, x_call, x_cv, x_ri, x_rz, x_rl, x_rv, zg, zset, zbef, zlong, zcat, cond_true, cond_false, List.take, List.drop, rv1, rv2, rv3, rv4, rv5, rv6, rv7, sm0, sm1, bl0, bl1, bl2, bl3, bl4, bl5, bl6, bl7, bl8, List.nil_append, List.cons_append, List.length_cons, List.length_nil, Nat.reduceBEq, Nat.reduceAdd, Nat.reduceSub, ta, tb, tn0, tn1, tn2, tn3, tn4, tn5, tn6, tn7, tn8, tn9, tn10, tn11, tn12]
    refine p_wrongIn (b := 0) (by decide) hR3.1 hR3.2.1 ?_
    dsimp only [x_int, x_lng, x_ild, x_lld, x_ald, x_ist, x_ast, x_lst, x_inc, x_ii, x_id, x_i, x_ll, x_ld, x_l, x_cmp, x_i2l, x_l2i, x_if, x_ic, x_dup, x_pop, x_dup2, x_gI, x_gL, x_gR, x_g1, x_g0, x_gP, x_pI, x_pZ, x_pL, x_pP, x_al, x_as, x_all, x_asl, x_alr, x_len, x_cpy, x_m2, x_m1, x_m2l, x_m1l, x_call, x_cv, x_ri, x_rz, x_rl, x_rv, zg, zset, zbef, zlong, zcat, cond_true, cond_false, List.take, List.drop, rv1, rv2, rv3, rv4, rv5, rv6, rv7, sm0, sm1, bl0, bl1, bl2, bl3, bl4, bl5, bl6, bl7, bl8, List.nil_append, List.cons_append, List.length_cons, List.length_nil, Nat.reduceBEq, Nat.reduceAdd, Nat.reduceSub, ta, tb, tn0, tn1, tn2, tn3, tn4, tn5, tn6, tn7, tn8, tn9, tn10, tn11, tn12]
    refine p_areIn (b := 0) (by decide) hR3.1 hR3.2.1 ?_
    dsimp only [x_int, x_lng, x_ild, x_lld, x_ald, x_ist, x_ast, x_lst, x_inc, x_ii, x_id, x_i, x_ll, x_ld, x_l, x_cmp, x_i2l, x_l2i, x_if, x_ic, x_dup, x_pop, x_dup2, x_gI, x_gL, x_gR, x_g1, x_g0, x_gP, x_pI, x_pZ, x_pL, x_pP, x_al, x_as, x_all, x_asl, x_alr, x_len, x_cpy, x_m2, x_m1, x_m2l, x_m1l, x_call, x_cv, x_ri, x_rz, x_rl, x_rv, zg, zset, zbef, zlong, zcat, cond_true, cond_false, List.take, List.drop, rv1, rv2, rv3, rv4, rv5, rv6, rv7, sm0, sm1, bl0, bl1, bl2, bl3, bl4, bl5, bl6, bl7, bl8, List.nil_append, List.cons_append, List.length_cons, List.length_nil, Nat.reduceBEq, Nat.reduceAdd, Nat.reduceSub, ta, tb, tn0, tn1, tn2, tn3, tn4, tn5, tn6, tn7, tn8, tn9, tn10, tn11, tn12]
    rw [plS_wrong, plS_many]
    exact hk
  dsimp only [x_int, x_lng, x_ild, x_lld, x_ald, x_ist, x_ast, x_lst, x_inc, x_ii, x_id, x_i, x_ll, x_ld, x_l, x_cmp, x_i2l, x_l2i, x_if, x_ic, x_dup, x_pop, x_dup2, x_gI, x_gL, x_gR, x_g1, x_g0, x_gP, x_pI, x_pZ, x_pL, x_pP, x_al, x_as, x_all, x_asl, x_alr, x_len, x_cpy, x_m2, x_m1, x_m2l, x_m1l, x_call, x_cv, x_ri, x_rz, x_rl, x_rv, zg, zset, zbef, zlong, zcat, cond_true, cond_false, List.take, List.drop, rv1, rv2, rv3, rv4, rv5, rv6, rv7, sm0, sm1, bl0, bl1, bl2, bl3, bl4, bl5, bl6, bl7, bl8, List.nil_append, List.cons_append, List.length_cons, List.length_nil, Nat.reduceBEq, Nat.reduceAdd, Nat.reduceSub, ta, tb, tn0, tn1, tn2, tn3, tn4, tn5, tn6, tn7, tn8, tn9, tn10, tn11, tn12, bX12_tried_44]
  refine p_isIn (fun okq => ?_) (fun no => ?_)
  · dsimp only [x_int, x_lng, x_ild, x_lld, x_ald, x_ist, x_ast, x_lst, x_inc, x_ii, x_id, x_i, x_ll, x_ld, x_l, x_cmp, x_i2l, x_l2i, x_if, x_ic, x_dup, x_pop, x_dup2, x_gI, x_gL, x_gR, x_g1, x_g0, x_gP, x_pI, x_pZ, x_pL, x_pP, x_al, x_as, x_all, x_asl, x_alr, x_len, x_cpy, x_m2, x_m1, x_m2l, x_m1l, x_call, x_cv, x_ri, x_rz, x_rl, x_rv, zg, zset, zbef, zlong, zcat, cond_true, cond_false, List.take, List.drop, rv1, rv2, rv3, rv4, rv5, rv6, rv7, sm0, sm1, bl0, bl1, bl2, bl3, bl4, bl5, bl6, bl7, bl8, List.nil_append, List.cons_append, List.length_cons, List.length_nil, Nat.reduceBEq, Nat.reduceAdd, Nat.reduceSub, ta, tb, tn0, tn1, tn2, tn3, tn4, tn5, tn6, tn7, tn8, tn9, tn10, tn11, tn12, bX12_tried_44]
    refine ⟨fun z => absurd z (by decide), fun _ => p_isIn (fun okn => ?_) (fun no => ?_)⟩
    · dsimp only [x_int, x_lng, x_ild, x_lld, x_ald, x_ist, x_ast, x_lst, x_inc, x_ii, x_id, x_i, x_ll, x_ld, x_l, x_cmp, x_i2l, x_l2i, x_if, x_ic, x_dup, x_pop, x_dup2, x_gI, x_gL, x_gR, x_g1, x_g0, x_gP, x_pI, x_pZ, x_pL, x_pP, x_al, x_as, x_all, x_asl, x_alr, x_len, x_cpy, x_m2, x_m1, x_m2l, x_m1l, x_call, x_cv, x_ri, x_rz, x_rl, x_rv, zg, zset, zbef, zlong, zcat, cond_true, cond_false, List.take, List.drop, rv1, rv2, rv3, rv4, rv5, rv6, rv7, sm0, sm1, bl0, bl1, bl2, bl3, bl4, bl5, bl6, bl7, bl8, List.nil_append, List.cons_append, List.length_cons, List.length_nil, Nat.reduceBEq, Nat.reduceAdd, Nat.reduceSub, ta, tb, tn0, tn1, tn2, tn3, tn4, tn5, tn6, tn7, tn8, tn9, tn10, tn11, tn12, bX12_tried_44]
      refine ⟨fun z => absurd z (by decide), fun _ => ⟨fun e2 => p_isHandR hR1.1 (fun okh => ?_) (fun no => ?_), fun e2 => ⟨fun ei => good ⟨okq, okn, by rw [if_neg e2]; exact ei⟩, fun ei => bad (fun h => ei (by have := h.2.2; rw [if_neg e2] at this; exact this))⟩⟩⟩
      · exact ⟨fun z => absurd z (by decide), fun _ => good ⟨okq, okn, by rw [if_pos e2]; exact okh⟩⟩
      · exact ⟨fun _ => bad (fun h => no (by have := h.2.2; rw [if_pos e2] at this; exact this)), fun z => absurd rfl z⟩
    · exact ⟨fun _ => bad (fun h => no h.2.1), fun z => absurd rfl z⟩
  · exact ⟨fun _ => bad (fun h => no h.1), fun z => absurd rfl z⟩
