theorem zsL_ex (I : zI) (L : zJ) (P : zP) (k i s : Nat) (v : Int64) : ∃ L3 : zJ, zsL (I, L, P) k i s v = (I, L3, P) ∧ L3 k i s = v ∧ ∀ a b c, ¬ (a = k ∧ b = i ∧ c = s) → L3 a b c = L a b c := ⟨_, rfl, if_pos ⟨rfl, rfl, rfl⟩, fun _ _ _ q => if_neg q⟩
theorem rtK8 {a c : Nat} (h : rtK a c = true) : (54 ≤ a ∧ a ≤ 71) ∨ (a = 12 ∧ 12 ≤ c ∧ c ≤ 15) := by
  unfold rtK at h
  simp only [Bool.or_eq_true, Bool.and_eq_true, Nat.ble_eq, beq_iff_eq] at h
  omega
theorem rsK8 {a c : Nat} (h : rsK a c = true) : (76 ≤ a ∧ a ≤ 86) ∨ a = 57 ∨ a = 61 ∨ a = 54 ∨ (a = 12 ∧ 64 ≤ c ∧ c ≤ 67) := by
  unfold rsK at h
  simp only [Bool.or_eq_true, Bool.and_eq_true, Nat.ble_eq, beq_iff_eq] at h
  omega
theorem pln.e {I I' : zI} (h : pln I) (e : ∀ c, 63 ≤ c → c ≤ 67 → I' 12 0 c = I 12 0 c) : pln I' := by
  obtain ⟨z1, z2, z3, z4, z5⟩ := h
  exact ⟨(e _ (by decide) (by decide)).trans z1, (e _ (by decide) (by decide)).trans z2, (e _ (by decide) (by decide)).trans z3, (e _ (by decide) (by decide)).trans z4, (e _ (by decide) (by decide)).trans z5⟩
theorem p10_n (n : Nat) : 10 + nI n = nI (10 + n) := n_add 10 n
theorem p20_n (n : Nat) : 20 + nI n = nI (20 + n) := n_add 20 n
theorem p30_n (n : Nat) : 30 + nI n = nI (30 + n) := n_add 30 n
theorem p36_n (n : Nat) : 36 + nI n = nI (36 + n) := n_add 36 n
set_option maxHeartbeats 2000000 in
theorem r_keep {K : zQ} {I : zI} {L : zJ} {P : zP} {A : aA} (hR : RR A I L) (hK : ∀ (I' : zI) (L' : zJ), RR (s_keep A).1 I' L' → frY I I' → K [.inl (s_keep A).2] (I', L', P)) : mX12_keep K [refR] (I, L, P) := by
  show bX12_keep_0 K [some (.inr (.inr (12,0))), none] [] (I, L, P)
  unfold bX12_keep_0
  obtain ⟨I1, e9, hR1, f1⟩ := r_thr P hR
  dsimp only [x_ald, x_int, x_pI, zg, Nat.reduceBEq, cond_true]
  rw [e9]
  have hT := hR1.1
  have hS := hR1.2.1
  have hp := hR1.2.2.1
  have hz := hR1.2.2.2.1
  have h6 := hT.h6
  have w4 := hT.w4
  have r10 := hT.r10
  dsimp only [x_int, x_lng, x_ild, x_lld, x_ald, x_ist, x_ast, x_lst, x_inc, x_ii, x_id, x_i, x_ll, x_ld, x_l, x_cmp, x_i2l, x_l2i, x_if, x_ic, x_dup, x_pop, x_dup2, x_gI, x_gL, x_gR, x_g1, x_g0, x_gP, x_pI, x_pZ, x_pL, x_pP, x_al, x_as, x_all, x_asl, x_alr, x_len, x_cpy, x_m2, x_m1, x_m2l, x_m1l, x_call, x_cv, x_ri, x_rz, x_rl, x_rv, zg, zset, zbef, zlong, zcat, cond_true, cond_false, List.take, List.drop, rv1, rv2, rv3, rv4, rv5, rv6, rv7, sm0, sm1, bl0, bl1, bl2, bl3, bl4, bl5, bl6, bl7, bl8, List.nil_append, List.cons_append, List.length_cons, List.length_nil, Nat.reduceBEq, Nat.reduceAdd, Nat.reduceSub, ta, tb, tn0, tn1, tn2, tn3, tn4, tn5, tn6, tn7, tn8, tn9, tn10, tn11, tn12]
  obtain ⟨I2, z2, v2, f2⟩ := zsI_ex I1 L P 12 0 75 1
  rw [z2]
  refine ⟨Or.inr rfl, p_put (o := 0) (Or.inr rfl) rfl (by decide) (by decide) (fun I3 f3 p1 p2 p3 p4 p5 => ?_)⟩
  dsimp only [x_int, x_lng, x_ild, x_lld, x_ald, x_ist, x_ast, x_lst, x_inc, x_ii, x_id, x_i, x_ll, x_ld, x_l, x_cmp, x_i2l, x_l2i, x_if, x_ic, x_dup, x_pop, x_dup2, x_gI, x_gL, x_gR, x_g1, x_g0, x_gP, x_pI, x_pZ, x_pL, x_pP, x_al, x_as, x_all, x_asl, x_alr, x_len, x_cpy, x_m2, x_m1, x_m2l, x_m1l, x_call, x_cv, x_ri, x_rz, x_rl, x_rv, zg, zset, zbef, zlong, zcat, cond_true, cond_false, List.take, List.drop, rv1, rv2, rv3, rv4, rv5, rv6, rv7, sm0, sm1, bl0, bl1, bl2, bl3, bl4, bl5, bl6, bl7, bl8, List.nil_append, List.cons_append, List.length_cons, List.length_nil, Nat.reduceBEq, Nat.reduceAdd, Nat.reduceSub, ta, tb, tn0, tn1, tn2, tn3, tn4, tn5, tn6, tn7, tn8, tn9, tn10, tn11, tn12]
  have g3 : ony (fun a c => a = 92 ∨ (a = 12 ∧ c = 75)) I1 I3 := fun a b c q => (f3 a b c (fun z => q ⟨z.1, by omega⟩)).trans (f2 a b c (fun z => q ⟨z.2.1, by omega⟩))
  refine zinv 10 (fun n Z M => ∃ I' : zI, Z = [some refR, some (.inl (nI n))] ∧ M = (I', L, P) ∧ ony (fun a c => a = 93) I3 I' ∧ wr I' 93 0 n (I1 81 0) ∧ wr I' 93 10 n (I1 82 0) ∧ wr I' 93 20 n (I1 84 0)) ?_ ?_ ⟨I3, rfl, rfl, ony.rf, wr.z, wr.z, wr.z⟩
  · rintro n Z M hn ⟨I', rfl, rfl, hI, h1, h2, h3⟩ self hself
    obtain ⟨J1, e1, j1, k1⟩ := zsI_ex I' L P 93 0 n (I' 81 0 n)
    obtain ⟨J2, e2, j2, k2⟩ := zsI_ex J1 L P 93 0 (10 + n) (J1 82 0 n)
    obtain ⟨J3, e3, j3, k3⟩ := zsI_ex J2 L P 93 0 (20 + n) (J2 84 0 n)
    have zi : zin (nI n) 20 := n_zin (by omega) (by decide)
    dsimp only [x_int, x_lng, x_ild, x_lld, x_ald, x_ist, x_ast, x_lst, x_inc, x_ii, x_id, x_i, x_ll, x_ld, x_l, x_cmp, x_i2l, x_l2i, x_if, x_ic, x_dup, x_pop, x_dup2, x_gI, x_gL, x_gR, x_g1, x_g0, x_gP, x_pI, x_pZ, x_pL, x_pP, x_al, x_as, x_all, x_asl, x_alr, x_len, x_cpy, x_m2, x_m1, x_m2l, x_m1l, x_call, x_cv, x_ri, x_rz, x_rl, x_rv, zg, zset, zbef, zlong, zcat, cond_true, cond_false, List.take, List.drop, rv1, rv2, rv3, rv4, rv5, rv6, rv7, sm0, sm1, bl0, bl1, bl2, bl3, bl4, bl5, bl6, bl7, bl8, List.nil_append, List.cons_append, List.length_cons, List.length_nil, Nat.reduceBEq, Nat.reduceAdd, Nat.reduceSub, ta, tb, tn0, tn1, tn2, tn3, tn4, tn5, tn6, tn7, tn8, tn9, tn10, tn11, tn12, zk_81, zl_81, zk_82, zl_82, zk_84, zl_84, zk_93, zl_93]
    rw [p10_n, p20_n, n_cl (n := n) (by omega), n_cl (n := 10 + n) (by omega), n_cl (n := 20 + n) (by omega), n_succ n, e1]
    dsimp only
    rw [e2]
    dsimp only
    rw [e3]
    have kk : ∀ a b c, ¬ (a = 93 ∧ b = 0 ∧ (c = n ∨ c = 10 + n ∨ c = 20 + n)) → J3 a b c = I' a b c := fun a b c q => ((k3 a b c (by omega)).trans (k2 a b c (by omega))).trans (k1 a b c (by omega))
    refine ⟨fun c => absurd c (lt_go (n := 10) rfl (by omega) hn), fun _ => ⟨zi, n_zin (by omega) (by decide), zi, n_zin (by omega) (by decide), zi, n_zin (by omega) (by decide), hself _ _ ⟨J3, rfl, rfl, fun a b c q => (kk a b c (fun z => q ⟨z.2.1, z.1⟩)).trans (hI a b c q), fun c hc => ?_, fun c hc => ?_, fun c hc => ?_⟩⟩⟩
    · by_cases e : c = n
      · subst e
        rw [Nat.zero_add, k3 _ _ _ (by omega), k2 _ _ _ (by omega), j1]
        exact (hI.lo (by omega)).trans (g3.lo (by omega))
      · rw [kk _ _ _ (by omega)]; exact h1 c (by omega)
    · by_cases e : c = n
      · subst e
        rw [k3 _ _ _ (by omega), j2, k1 _ _ _ (by omega)]
        exact (hI.lo (by omega)).trans (g3.lo (by omega))
      · rw [kk _ _ _ (by omega)]; exact h2 c (by omega)
    · by_cases e : c = n
      · subst e
        rw [j3, k2 _ _ _ (by omega), k1 _ _ _ (by omega)]
        exact (hI.lo (by omega)).trans (g3.lo (by omega))
      · rw [kk _ _ _ (by omega)]; exact h3 c (by omega)
  · rintro Z M ⟨I4, rfl, rfl, hI4, a1, a2, a3⟩ self
    dsimp only [x_int, x_lng, x_ild, x_lld, x_ald, x_ist, x_ast, x_lst, x_inc, x_ii, x_id, x_i, x_ll, x_ld, x_l, x_cmp, x_i2l, x_l2i, x_if, x_ic, x_dup, x_pop, x_dup2, x_gI, x_gL, x_gR, x_g1, x_g0, x_gP, x_pI, x_pZ, x_pL, x_pP, x_al, x_as, x_all, x_asl, x_alr, x_len, x_cpy, x_m2, x_m1, x_m2l, x_m1l, x_call, x_cv, x_ri, x_rz, x_rl, x_rv, zg, zset, zbef, zlong, zcat, cond_true, cond_false, List.take, List.drop, rv1, rv2, rv3, rv4, rv5, rv6, rv7, sm0, sm1, bl0, bl1, bl2, bl3, bl4, bl5, bl6, bl7, bl8, List.nil_append, List.cons_append, List.length_cons, List.length_nil, Nat.reduceBEq, Nat.reduceAdd, Nat.reduceSub, ta, tb, tn0, tn1, tn2, tn3, tn4, tn5, tn6, tn7, tn8, tn9, tn10, tn11, tn12]
    refine ⟨fun _ => ?_, fun c => absurd c (lt_out (n := 10) rfl)⟩
    refine zinv 6 (fun n Z M => ∃ I' : zI, Z = [some refR, some (.inl (nI n))] ∧ M = (I', L, P) ∧ ony (fun a c => a = 93) I3 I' ∧ wr I' 93 0 10 (I1 81 0) ∧ wr I' 93 10 10 (I1 82 0) ∧ wr I' 93 20 10 (I1 84 0) ∧ wr I' 93 30 n (I1 77 0)) ?_ ?_ ⟨I4, rfl, rfl, hI4, a1, a2, a3, wr.z⟩
    · rintro n Z M hn ⟨I', rfl, rfl, hI, h1, h2, h3, h4⟩ self hself
      dsimp only [x_int, x_lng, x_ild, x_lld, x_ald, x_ist, x_ast, x_lst, x_inc, x_ii, x_id, x_i, x_ll, x_ld, x_l, x_cmp, x_i2l, x_l2i, x_if, x_ic, x_dup, x_pop, x_dup2, x_gI, x_gL, x_gR, x_g1, x_g0, x_gP, x_pI, x_pZ, x_pL, x_pP, x_al, x_as, x_all, x_asl, x_alr, x_len, x_cpy, x_m2, x_m1, x_m2l, x_m1l, x_call, x_cv, x_ri, x_rz, x_rl, x_rv, zg, zset, zbef, zlong, zcat, cond_true, cond_false, List.take, List.drop, rv1, rv2, rv3, rv4, rv5, rv6, rv7, sm0, sm1, bl0, bl1, bl2, bl3, bl4, bl5, bl6, bl7, bl8, List.nil_append, List.cons_append, List.length_cons, List.length_nil, Nat.reduceBEq, Nat.reduceAdd, Nat.reduceSub, ta, tb, tn0, tn1, tn2, tn3, tn4, tn5, tn6, tn7, tn8, tn9, tn10, tn11, tn12, zk_77, zl_77, zk_93, zl_93]
      rw [p30_n, n_cl (n := n) (by omega), n_cl (n := 30 + n) (by omega), n_succ n]
      exact ⟨fun c => absurd c (lt_go (n := 6) rfl (by omega) hn), fun _ => ⟨n_zin (by omega) (by decide), n_zin (by omega) (by decide), hself _ _ ⟨(zsI (I', L, P) 93 0 (30 + n) (I' 77 0 n)).1, rfl, rfl, hI.set rfl, wr.ne h1 (by omega), wr.ne h2 (by omega), wr.ne h3 (by omega), wr.set h4 rfl ((hI.lo (by omega)).trans (g3.lo (by omega)))⟩⟩⟩
    · rintro Z M ⟨I5, rfl, rfl, hI5, b1, b2, b3, b4⟩ self
      dsimp only [x_int, x_lng, x_ild, x_lld, x_ald, x_ist, x_ast, x_lst, x_inc, x_ii, x_id, x_i, x_ll, x_ld, x_l, x_cmp, x_i2l, x_l2i, x_if, x_ic, x_dup, x_pop, x_dup2, x_gI, x_gL, x_gR, x_g1, x_g0, x_gP, x_pI, x_pZ, x_pL, x_pP, x_al, x_as, x_all, x_asl, x_alr, x_len, x_cpy, x_m2, x_m1, x_m2l, x_m1l, x_call, x_cv, x_ri, x_rz, x_rl, x_rv, zg, zset, zbef, zlong, zcat, cond_true, cond_false, List.take, List.drop, rv1, rv2, rv3, rv4, rv5, rv6, rv7, sm0, sm1, bl0, bl1, bl2, bl3, bl4, bl5, bl6, bl7, bl8, List.nil_append, List.cons_append, List.length_cons, List.length_nil, Nat.reduceBEq, Nat.reduceAdd, Nat.reduceSub, ta, tb, tn0, tn1, tn2, tn3, tn4, tn5, tn6, tn7, tn8, tn9, tn10, tn11, tn12]
      refine ⟨fun _ => ?_, fun c => absurd c (lt_out (n := 6) rfl)⟩
      refine zinv 60 (fun n Z M => ∃ I' : zI, Z = [some refR, some (.inl (nI n))] ∧ M = (I', L, P) ∧ ony (fun a c => a = 93) I3 I' ∧ wr I' 93 0 10 (I1 81 0) ∧ wr I' 93 10 10 (I1 82 0) ∧ wr I' 93 20 10 (I1 84 0) ∧ wr I' 93 30 6 (I1 77 0) ∧ wr I' 93 36 n (I1 85 0)) ?_ ?_ ⟨I5, rfl, rfl, hI5, b1, b2, b3, b4, wr.z⟩
      · rintro n Z M hn ⟨I', rfl, rfl, hI, h1, h2, h3, h4, h5⟩ self hself
        dsimp only [x_int, x_lng, x_ild, x_lld, x_ald, x_ist, x_ast, x_lst, x_inc, x_ii, x_id, x_i, x_ll, x_ld, x_l, x_cmp, x_i2l, x_l2i, x_if, x_ic, x_dup, x_pop, x_dup2, x_gI, x_gL, x_gR, x_g1, x_g0, x_gP, x_pI, x_pZ, x_pL, x_pP, x_al, x_as, x_all, x_asl, x_alr, x_len, x_cpy, x_m2, x_m1, x_m2l, x_m1l, x_call, x_cv, x_ri, x_rz, x_rl, x_rv, zg, zset, zbef, zlong, zcat, cond_true, cond_false, List.take, List.drop, rv1, rv2, rv3, rv4, rv5, rv6, rv7, sm0, sm1, bl0, bl1, bl2, bl3, bl4, bl5, bl6, bl7, bl8, List.nil_append, List.cons_append, List.length_cons, List.length_nil, Nat.reduceBEq, Nat.reduceAdd, Nat.reduceSub, ta, tb, tn0, tn1, tn2, tn3, tn4, tn5, tn6, tn7, tn8, tn9, tn10, tn11, tn12, zk_85, zl_85, zk_93, zl_93]
        rw [p36_n, n_cl (n := n) (by omega), n_cl (n := 36 + n) (by omega), n_succ n]
        exact ⟨fun c => absurd c (lt_go (n := 60) rfl (by omega) hn), fun _ => ⟨n_zin (by omega) (by decide), n_zin (by omega) (by decide), hself _ _ ⟨(zsI (I', L, P) 93 0 (36 + n) (I' 85 0 n)).1, rfl, rfl, hI.set rfl, wr.ne h1 (by omega), wr.ne h2 (by omega), wr.ne h3 (by omega), wr.ne h4 (by omega), wr.set h5 rfl ((hI.lo (by omega)).trans (g3.lo (by omega)))⟩⟩⟩
      · rintro Z M ⟨I6, rfl, rfl, hI6, c1, c2, c3, c4, c5⟩ self
        dsimp only [x_int, x_lng, x_ild, x_lld, x_ald, x_ist, x_ast, x_lst, x_inc, x_ii, x_id, x_i, x_ll, x_ld, x_l, x_cmp, x_i2l, x_l2i, x_if, x_ic, x_dup, x_pop, x_dup2, x_gI, x_gL, x_gR, x_g1, x_g0, x_gP, x_pI, x_pZ, x_pL, x_pP, x_al, x_as, x_all, x_asl, x_alr, x_len, x_cpy, x_m2, x_m1, x_m2l, x_m1l, x_call, x_cv, x_ri, x_rz, x_rl, x_rv, zg, zset, zbef, zlong, zcat, cond_true, cond_false, List.take, List.drop, rv1, rv2, rv3, rv4, rv5, rv6, rv7, sm0, sm1, bl0, bl1, bl2, bl3, bl4, bl5, bl6, bl7, bl8, List.nil_append, List.cons_append, List.length_cons, List.length_nil, Nat.reduceBEq, Nat.reduceAdd, Nat.reduceSub, ta, tb, tn0, tn1, tn2, tn3, tn4, tn5, tn6, tn7, tn8, tn9, tn10, tn11, tn12, zk_86, zl_86, zk_93, zl_93]
        have d6 : I6 86 0 0 = A.S 9 0 := ((hI6.lo (by omega)).trans (g3.lo (by omega))).trans hS.2.2.2.1
        obtain ⟨I7, e7, v7, f7⟩ := zsI_ex I6 L P 93 0 (96 : Int32).toNatClampNeg (A.S 9 0)
        have e96 : (96 : Int32).toNatClampNeg = 96 := rfl
        rw [d6, e7]
        dsimp only
        obtain ⟨L7, l7, w7, y7⟩ := zsL_ex I7 L P 12 0 78 (L 12 0 61)
        rw [l7]
        dsimp only
        rw [e96] at v7 f7
        have d7 : I7 86 0 0 = A.S 9 0 := (f7 _ _ _ (by omega)).trans d6
        rw [d7]
        refine ⟨fun _ => ⟨by unfold zin; decide, by unfold zin; decide, by unfold zin; decide, ?_⟩, fun c => absurd c (lt_out (n := 60) rfl)⟩
        have fr : ony (fun a c => a = 93 ∨ a = 92 ∨ (a = 12 ∧ c = 75)) I1 I7 := fun a b c q => ((f7 a b c (fun z => q ⟨z.2.1, by omega⟩)).trans (hI6 a b c (fun z => q ⟨z.1, by omega⟩))).trans (g3 a b c (fun z => q ⟨z.1, by omega⟩))
        have l93 : ∀ c, ¬ c = 96 → I7 93 0 c = I6 93 0 c := fun c q => f7 _ _ _ (by omega)
        have sn : snp A.T A.S I7 92 0 := (snp_put h6 w4 r10 hp hS (fun c hc => (p1 c hc).trans (f2 _ _ _ (by omega))) (fun c hc => (p2 c hc).trans (f2 _ _ _ (by omega))) (fun c hc => (p3 c hc).trans (f2 _ _ _ (by omega))) hz (fun c hc => (p4 c hc).trans (by dsimp only; rw [f2 _ _ _ (by omega)])) (fun c hc => (p5 c hc).trans (f2 _ _ _ (by omega)))).q (fun c => (f7 _ _ _ (by omega)).trans (hI6.lo (by omega)))
        refine hK I7 L7 ⟨hT.fr (fun a c q => fr.lo (by have := rtK8 q; omega)), hS.fr (fun a c q => fr.lo (by have := rsK8 q; omega)), hp.e (fun c _ _ => fr.lo (by omega)), fun c hc => by rw [fr.lo (by omega)]; exact hz c hc, ⟨hR1.2.2.2.2.1.1, (y7 _ _ _ (by decide)).trans hR1.2.2.2.2.1.2⟩, ⟨(f7 _ _ _ (by omega)).trans ((hI6.lo (by omega)).trans ((f3.lo (by omega)).trans v2)), sn, fun r hr => ?_, fun h hh => ?_, v7, w7.trans hR1.2.2.2.2.1.2⟩, ⟨(fr.lo (by decide)).trans hR1.2.2.2.2.2.2.1.1, fun i hi => (hR1.2.2.2.2.2.2.1.2 i hi).q (fun c => fr.lo (by omega))⟩, hR1.2.2.2.2.2.2.2.1.e (fr.lo (by decide)) (fr.lo (by decide)) (fun c => fr.lo (by omega)), ⟨(fr.lo (by decide)).trans hR1.2.2.2.2.2.2.2.2.1.1, fun i hi => (fr.lo (by omega)).trans (hR1.2.2.2.2.2.2.2.2.1.2 i hi)⟩, ⟨(fr.lo (by decide)).trans hR1.2.2.2.2.2.2.2.2.2.1.1, (fr.lo (by decide)).trans hR1.2.2.2.2.2.2.2.2.2.1.2⟩, fun i hi => (fr.lo (by omega)).trans (hR1.2.2.2.2.2.2.2.2.2.2 i hi)⟩ (f1.Y.tr (ony_Y fr (by omega)))
        · have hr : r < A.T.1 2 := hr
          obtain ⟨q1, q2, q3, q4, q5, q6, q7⟩ := hS.2.2.1 r hr
          rw [show 10 * 0 + r = r by omega] at q3 q4 q6
          rw [l93 _ (by omega), l93 _ (by omega), l93 _ (by omega), c1.get (by omega), c2 r (by omega), c3 r (by omega)]
          refine ⟨q3, q4, q6, fun k hk => ?_⟩
          have := q7 k hk
          rw [show 60 * 0 + 6 * r + k = 6 * r + k by omega] at this
          rw [l93 _ (by omega), c5 _ (by omega)]; exact this
        · have hh : h < A.T.1 0 := hh
          have := (hS.1 h hh).2.1
          rw [show 6 * 0 + h = h by omega] at this
          rw [l93 _ (by omega), c4 _ (by omega)]; exact this
set_option maxHeartbeats 2000000 in
theorem r_back {K : zQ} {I : zI} {L : zJ} {P : zP} {A : aA} (wX : ∀ S, A.im = some S → WX A.T S) (hR : RR A I L) (hK : ∀ (I' : zI) (L' : zJ), RR (s_back A).1 I' L' → frY I I' → K [.inl (s_back A).2] (I', L', P)) : mX12_back K [refR] (I, L, P) := by
  show bX12_back_0 K [some (.inr (.inr (12,0))), none] [] (I, L, P)
  unfold bX12_back_0
  obtain ⟨I1, e9, hR1, f1⟩ := r_thr P hR
  dsimp only [x_ald, x_int, x_pI, zg, Nat.reduceBEq, cond_true]
  rw [e9]
  have hT := hR1.1
  have hp := hR1.2.2.1
  have h6 := hT.h6
  have w4 := hT.w4
  have r10 := hT.r10
  have hi := hR1.2.2.2.2.2.1
  unfold s_back at hK
  unfold RRi at hi
  dsimp only [x_int, x_lng, x_ild, x_lld, x_ald, x_ist, x_ast, x_lst, x_inc, x_ii, x_id, x_i, x_ll, x_ld, x_l, x_cmp, x_i2l, x_l2i, x_if, x_ic, x_dup, x_pop, x_dup2, x_gI, x_gL, x_gR, x_g1, x_g0, x_gP, x_pI, x_pZ, x_pL, x_pP, x_al, x_as, x_all, x_asl, x_alr, x_len, x_cpy, x_m2, x_m1, x_m2l, x_m1l, x_call, x_cv, x_ri, x_rz, x_rl, x_rv, zg, zset, zbef, zlong, zcat, cond_true, cond_false, List.take, List.drop, rv1, rv2, rv3, rv4, rv5, rv6, rv7, sm0, sm1, bl0, bl1, bl2, bl3, bl4, bl5, bl6, bl7, bl8, List.nil_append, List.cons_append, List.length_cons, List.length_nil, Nat.reduceBEq, Nat.reduceAdd, Nat.reduceSub, ta, tb, tn0, tn1, tn2, tn3, tn4, tn5, tn6, tn7, tn8, tn9, tn10, tn11, tn12]
  cases im : A.im with
  | none =>
    rw [im] at hK hi
    rw [hi]
    exact ⟨fun _ => hK I1 L hR1 f1.Y, fun z => absurd rfl z⟩
  | some S1 =>
    rw [im] at hK hi
    obtain ⟨xS, xQ, xB, xL, xT, xN⟩ := wX S1 im
    have hK : ∀ (I' : zI) (L' : zJ), RR (updA A S1 (0, A.U.2)) I' L' → frY I I' → K [.inl (S1 9 0)] (I', L', P) := hK
    have hi : I1 12 0 75 = 1 ∧ snp A.T S1 I1 92 0 ∧ (∀ r, r < A.T.1 2 → I1 93 0 r = S1 5 r ∧ I1 93 0 (10 + r) = S1 6 r ∧ (¬ S1 5 r = 0 → I1 93 0 (20 + r) = S1 4 r) ∧ ∀ k, k < 6 → I1 93 0 (36 + (6 * r + k)) = S1 8 (6 * r + k)) ∧ (∀ h, h < A.T.1 0 → I1 93 0 (30 + h) = S1 1 h) ∧ I1 93 0 96 = S1 9 0 ∧ L 12 0 78 = (S1 10 0).toInt64 := hi
    obtain ⟨i1, i2, i3, i4, i5, i6⟩ := hi
    rw [i1]
    refine ⟨fun z => absurd z (by decide), fun _ => p_take (o := 0) (Or.inr rfl) rfl (by decide) (by decide) (fun I3 f3 t1 t2 t3 t4 t5 => ?_)⟩
    dsimp only [x_int, x_lng, x_ild, x_lld, x_ald, x_ist, x_ast, x_lst, x_inc, x_ii, x_id, x_i, x_ll, x_ld, x_l, x_cmp, x_i2l, x_l2i, x_if, x_ic, x_dup, x_pop, x_dup2, x_gI, x_gL, x_gR, x_g1, x_g0, x_gP, x_pI, x_pZ, x_pL, x_pP, x_al, x_as, x_all, x_asl, x_alr, x_len, x_cpy, x_m2, x_m1, x_m2l, x_m1l, x_call, x_cv, x_ri, x_rz, x_rl, x_rv, zg, zset, zbef, zlong, zcat, cond_true, cond_false, List.take, List.drop, rv1, rv2, rv3, rv4, rv5, rv6, rv7, sm0, sm1, bl0, bl1, bl2, bl3, bl4, bl5, bl6, bl7, bl8, List.nil_append, List.cons_append, List.length_cons, List.length_nil, Nat.reduceBEq, Nat.reduceAdd, Nat.reduceSub, ta, tb, tn0, tn1, tn2, tn3, tn4, tn5, tn6, tn7, tn8, tn9, tn10, tn11, tn12]
    refine zinv 10 (fun n Z M => ∃ I' : zI, Z = [some refR, some (.inl (nI n))] ∧ M = (I', L, P) ∧ ony (fun a c => a = 81 ∨ a = 82 ∨ a = 84) I3 I' ∧ wr I' 81 0 n (I1 93 0) ∧ wr I' 82 0 n (fun c => I1 93 0 (10 + c)) ∧ wr I' 84 0 n (fun c => I1 93 0 (20 + c))) ?_ ?_ ⟨I3, rfl, rfl, ony.rf, wr.z, wr.z, wr.z⟩
    · rintro n Z M hn ⟨I', rfl, rfl, hI, h1, h2, h3⟩ self hself
      obtain ⟨J1, e1, j1, k1⟩ := zsI_ex I' L P 81 0 n (I' 93 0 n)
      obtain ⟨J2, e2, j2, k2⟩ := zsI_ex J1 L P 82 0 n (J1 93 0 (10 + n))
      obtain ⟨J3, e3, j3, k3⟩ := zsI_ex J2 L P 84 0 n (J2 93 0 (20 + n))
      have zi : zin (nI n) 20 := n_zin (by omega) (by decide)
      dsimp only [x_int, x_lng, x_ild, x_lld, x_ald, x_ist, x_ast, x_lst, x_inc, x_ii, x_id, x_i, x_ll, x_ld, x_l, x_cmp, x_i2l, x_l2i, x_if, x_ic, x_dup, x_pop, x_dup2, x_gI, x_gL, x_gR, x_g1, x_g0, x_gP, x_pI, x_pZ, x_pL, x_pP, x_al, x_as, x_all, x_asl, x_alr, x_len, x_cpy, x_m2, x_m1, x_m2l, x_m1l, x_call, x_cv, x_ri, x_rz, x_rl, x_rv, zg, zset, zbef, zlong, zcat, cond_true, cond_false, List.take, List.drop, rv1, rv2, rv3, rv4, rv5, rv6, rv7, sm0, sm1, bl0, bl1, bl2, bl3, bl4, bl5, bl6, bl7, bl8, List.nil_append, List.cons_append, List.length_cons, List.length_nil, Nat.reduceBEq, Nat.reduceAdd, Nat.reduceSub, ta, tb, tn0, tn1, tn2, tn3, tn4, tn5, tn6, tn7, tn8, tn9, tn10, tn11, tn12, zk_81, zl_81, zk_82, zl_82, zk_84, zl_84, zk_93, zl_93]
      rw [p10_n, p20_n, n_cl (n := n) (by omega), n_cl (n := 10 + n) (by omega), n_cl (n := 20 + n) (by omega), n_succ n, e1]
      dsimp only
      rw [e2]
      dsimp only
      rw [e3]
      have kk : ∀ a b c, ¬ (b = 0 ∧ c = n ∧ (a = 81 ∨ a = 82 ∨ a = 84)) → J3 a b c = I' a b c := fun a b c q => ((k3 a b c (by omega)).trans (k2 a b c (by omega))).trans (k1 a b c (by omega))
      refine ⟨fun c => absurd c (lt_go (n := 10) rfl (by omega) hn), fun _ => ⟨n_zin (by omega) (by decide), zi, n_zin (by omega) (by decide), zi, n_zin (by omega) (by decide), zi, hself _ _ ⟨J3, rfl, rfl, fun a b c q => (kk a b c (fun z => q ⟨z.1, z.2.2⟩)).trans (hI a b c q), fun c hc => ?_, fun c hc => ?_, fun c hc => ?_⟩⟩⟩
      · by_cases e : c = n
        · subst e
          rw [Nat.zero_add, k3 _ _ _ (by omega), k2 _ _ _ (by omega), j1]
          exact (hI.lo (by omega)).trans (f3.lo (by omega))
        · rw [kk _ _ _ (by omega)]; exact h1 c (by omega)
      · by_cases e : c = n
        · subst e
          rw [Nat.zero_add, k3 _ _ _ (by omega), j2, k1 _ _ _ (by omega)]
          exact (hI.lo (by omega)).trans (f3.lo (by omega))
        · rw [kk _ _ _ (by omega)]; exact h2 c (by omega)
      · by_cases e : c = n
        · subst e
          rw [Nat.zero_add, j3, k2 _ _ _ (by omega), k1 _ _ _ (by omega)]
          exact (hI.lo (by omega)).trans (f3.lo (by omega))
        · rw [kk _ _ _ (by omega)]; exact h3 c (by omega)
    · rintro Z M ⟨I4, rfl, rfl, hI4, a1, a2, a3⟩ self
      dsimp only [x_int, x_lng, x_ild, x_lld, x_ald, x_ist, x_ast, x_lst, x_inc, x_ii, x_id, x_i, x_ll, x_ld, x_l, x_cmp, x_i2l, x_l2i, x_if, x_ic, x_dup, x_pop, x_dup2, x_gI, x_gL, x_gR, x_g1, x_g0, x_gP, x_pI, x_pZ, x_pL, x_pP, x_al, x_as, x_all, x_asl, x_alr, x_len, x_cpy, x_m2, x_m1, x_m2l, x_m1l, x_call, x_cv, x_ri, x_rz, x_rl, x_rv, zg, zset, zbef, zlong, zcat, cond_true, cond_false, List.take, List.drop, rv1, rv2, rv3, rv4, rv5, rv6, rv7, sm0, sm1, bl0, bl1, bl2, bl3, bl4, bl5, bl6, bl7, bl8, List.nil_append, List.cons_append, List.length_cons, List.length_nil, Nat.reduceBEq, Nat.reduceAdd, Nat.reduceSub, ta, tb, tn0, tn1, tn2, tn3, tn4, tn5, tn6, tn7, tn8, tn9, tn10, tn11, tn12]
      refine ⟨fun _ => ?_, fun c => absurd c (lt_out (n := 10) rfl)⟩
      refine zinv 6 (fun n Z M => ∃ I' : zI, Z = [some refR, some (.inl (nI n))] ∧ M = (I', L, P) ∧ ony (fun a c => a = 77) I4 I' ∧ wr I' 77 0 n (fun c => I1 93 0 (30 + c))) ?_ ?_ ⟨I4, rfl, rfl, ony.rf, wr.z⟩
      · rintro n Z M hn ⟨I', rfl, rfl, hI, h1⟩ self hself
        dsimp only [x_int, x_lng, x_ild, x_lld, x_ald, x_ist, x_ast, x_lst, x_inc, x_ii, x_id, x_i, x_ll, x_ld, x_l, x_cmp, x_i2l, x_l2i, x_if, x_ic, x_dup, x_pop, x_dup2, x_gI, x_gL, x_gR, x_g1, x_g0, x_gP, x_pI, x_pZ, x_pL, x_pP, x_al, x_as, x_all, x_asl, x_alr, x_len, x_cpy, x_m2, x_m1, x_m2l, x_m1l, x_call, x_cv, x_ri, x_rz, x_rl, x_rv, zg, zset, zbef, zlong, zcat, cond_true, cond_false, List.take, List.drop, rv1, rv2, rv3, rv4, rv5, rv6, rv7, sm0, sm1, bl0, bl1, bl2, bl3, bl4, bl5, bl6, bl7, bl8, List.nil_append, List.cons_append, List.length_cons, List.length_nil, Nat.reduceBEq, Nat.reduceAdd, Nat.reduceSub, ta, tb, tn0, tn1, tn2, tn3, tn4, tn5, tn6, tn7, tn8, tn9, tn10, tn11, tn12, zk_77, zl_77, zk_93, zl_93]
        rw [p30_n, n_cl (n := n) (by omega), n_cl (n := 30 + n) (by omega), n_succ n]
        exact ⟨fun c => absurd c (lt_go (n := 6) rfl (by omega) hn), fun _ => ⟨n_zin (by omega) (by decide), n_zin (by omega) (by decide), hself _ _ ⟨(zsI (I', L, P) 77 0 n (I' 93 0 (30 + n))).1, rfl, rfl, hI.set rfl, wr.set h1 (by omega) (((hI.lo (by omega)).trans (hI4.lo (by omega))).trans (f3.lo (by omega)))⟩⟩⟩
      · rintro Z M ⟨I5, rfl, rfl, hI5, b1⟩ self
        dsimp only [x_int, x_lng, x_ild, x_lld, x_ald, x_ist, x_ast, x_lst, x_inc, x_ii, x_id, x_i, x_ll, x_ld, x_l, x_cmp, x_i2l, x_l2i, x_if, x_ic, x_dup, x_pop, x_dup2, x_gI, x_gL, x_gR, x_g1, x_g0, x_gP, x_pI, x_pZ, x_pL, x_pP, x_al, x_as, x_all, x_asl, x_alr, x_len, x_cpy, x_m2, x_m1, x_m2l, x_m1l, x_call, x_cv, x_ri, x_rz, x_rl, x_rv, zg, zset, zbef, zlong, zcat, cond_true, cond_false, List.take, List.drop, rv1, rv2, rv3, rv4, rv5, rv6, rv7, sm0, sm1, bl0, bl1, bl2, bl3, bl4, bl5, bl6, bl7, bl8, List.nil_append, List.cons_append, List.length_cons, List.length_nil, Nat.reduceBEq, Nat.reduceAdd, Nat.reduceSub, ta, tb, tn0, tn1, tn2, tn3, tn4, tn5, tn6, tn7, tn8, tn9, tn10, tn11, tn12]
        refine ⟨fun _ => ?_, fun c => absurd c (lt_out (n := 6) rfl)⟩
        refine zinv 60 (fun n Z M => ∃ I' : zI, Z = [some refR, some (.inl (nI n))] ∧ M = (I', L, P) ∧ ony (fun a c => a = 85) I5 I' ∧ wr I' 85 0 n (fun c => I1 93 0 (36 + c))) ?_ ?_ ⟨I5, rfl, rfl, ony.rf, wr.z⟩
        · rintro n Z M hn ⟨I', rfl, rfl, hI, h1⟩ self hself
          dsimp only [x_int, x_lng, x_ild, x_lld, x_ald, x_ist, x_ast, x_lst, x_inc, x_ii, x_id, x_i, x_ll, x_ld, x_l, x_cmp, x_i2l, x_l2i, x_if, x_ic, x_dup, x_pop, x_dup2, x_gI, x_gL, x_gR, x_g1, x_g0, x_gP, x_pI, x_pZ, x_pL, x_pP, x_al, x_as, x_all, x_asl, x_alr, x_len, x_cpy, x_m2, x_m1, x_m2l, x_m1l, x_call, x_cv, x_ri, x_rz, x_rl, x_rv, zg, zset, zbef, zlong, zcat, cond_true, cond_false, List.take, List.drop, rv1, rv2, rv3, rv4, rv5, rv6, rv7, sm0, sm1, bl0, bl1, bl2, bl3, bl4, bl5, bl6, bl7, bl8, List.nil_append, List.cons_append, List.length_cons, List.length_nil, Nat.reduceBEq, Nat.reduceAdd, Nat.reduceSub, ta, tb, tn0, tn1, tn2, tn3, tn4, tn5, tn6, tn7, tn8, tn9, tn10, tn11, tn12, zk_85, zl_85, zk_93, zl_93]
          rw [p36_n, n_cl (n := n) (by omega), n_cl (n := 36 + n) (by omega), n_succ n]
          exact ⟨fun c => absurd c (lt_go (n := 60) rfl (by omega) hn), fun _ => ⟨n_zin (by omega) (by decide), n_zin (by omega) (by decide), hself _ _ ⟨(zsI (I', L, P) 85 0 n (I' 93 0 (36 + n))).1, rfl, rfl, hI.set rfl, wr.set h1 (by omega) ((((hI.lo (by omega)).trans (hI5.lo (by omega))).trans (hI4.lo (by omega))).trans (f3.lo (by omega)))⟩⟩⟩
        · rintro Z M ⟨I6, rfl, rfl, hI6, c1⟩ self
          dsimp only [x_int, x_lng, x_ild, x_lld, x_ald, x_ist, x_ast, x_lst, x_inc, x_ii, x_id, x_i, x_ll, x_ld, x_l, x_cmp, x_i2l, x_l2i, x_if, x_ic, x_dup, x_pop, x_dup2, x_gI, x_gL, x_gR, x_g1, x_g0, x_gP, x_pI, x_pZ, x_pL, x_pP, x_al, x_as, x_all, x_asl, x_alr, x_len, x_cpy, x_m2, x_m1, x_m2l, x_m1l, x_call, x_cv, x_ri, x_rz, x_rl, x_rv, zg, zset, zbef, zlong, zcat, cond_true, cond_false, List.take, List.drop, rv1, rv2, rv3, rv4, rv5, rv6, rv7, sm0, sm1, bl0, bl1, bl2, bl3, bl4, bl5, bl6, bl7, bl8, List.nil_append, List.cons_append, List.length_cons, List.length_nil, Nat.reduceBEq, Nat.reduceAdd, Nat.reduceSub, ta, tb, tn0, tn1, tn2, tn3, tn4, tn5, tn6, tn7, tn8, tn9, tn10, tn11, tn12, zk_86, zl_86, zk_93, zl_93]
          have e96 : (96 : Int32).toNatClampNeg = 96 := rfl
          have d6 : I6 93 0 96 = S1 9 0 := ((((hI6.lo (by omega)).trans (hI5.lo (by omega))).trans (hI4.lo (by omega))).trans (f3.lo (by omega))).trans i5
          obtain ⟨I7, e7, v7, f7⟩ := zsI_ex I6 L P 86 0 0 (S1 9 0)
          rw [e96, d6, e7]
          dsimp only
          obtain ⟨L7, l7, w7, y7⟩ := zsL_ex I7 L P 12 0 61 (L 12 0 78)
          rw [l7]
          obtain ⟨I8, e8, v8, f8⟩ := zsI_ex I7 L7 P 12 0 73 0
          rw [e8]
          dsimp only
          have d8 : I8 86 0 0 = S1 9 0 := (f8 _ _ _ (by omega)).trans v7
          rw [d8]
          refine ⟨fun _ => ⟨by unfold zin; decide, by unfold zin; decide, by unfold zin; decide, ?_⟩, fun c => absurd c (lt_out (n := 60) rfl)⟩
          have fr : ony (fun a c => (a = 12 ∧ c = 73) ∨ (76 ≤ a ∧ a ≤ 86)) I1 I8 := fun a b c q => (((((f8 a b c (fun z => q ⟨z.2.1, by omega⟩)).trans (f7 a b c (fun z => q ⟨z.2.1, by omega⟩))).trans (hI6 a b c (fun z => q ⟨z.1, by omega⟩))).trans (hI5 a b c (fun z => q ⟨z.1, by omega⟩))).trans (hI4 a b c (fun z => q ⟨z.1, by omega⟩))).trans (f3 a b c (fun z => q ⟨z.1, by have := z.2; omega⟩))
          have hp8 : pln I8 := hp.e (fun c _ _ => fr.lo (by omega))
          have k3 : ∀ a c, ¬ (a = 12 ∨ a = 77 ∨ a = 81 ∨ a = 82 ∨ a = 84 ∨ a = 85 ∨ a = 86) → I8 a 0 c = I3 a 0 c := fun a c q => ((((f8 a 0 c (by omega)).trans (f7 a 0 c (by omega))).trans (hI6.lo (by omega))).trans (hI5.lo (by omega))).trans (hI4.lo (by omega))
          have k4 : ∀ a c, (a = 81 ∨ a = 82 ∨ a = 84) → I8 a 0 c = I4 a 0 c := fun a c q => (((f8 a 0 c (by omega)).trans (f7 a 0 c (by omega))).trans (hI6.lo (by omega))).trans (hI5.lo (by omega))
          obtain ⟨n1, n2, n3⟩ := i2
          obtain ⟨u1, u2, u3, u4⟩ := xT
          have hS8 : RS I8 0 A.T S1 := by
            refine ⟨fun x hx => ⟨?_, ?_, ?_⟩, fun x hx => ⟨?_, ?_⟩, fun x hx => ?_, d8, ?_, ?_⟩
            · rw [coldR_pln hp8 (by omega), show 6 * 0 + x = x by omega, k3 _ _ (by omega), t1.get (by omega)]; exact n1 x hx
            · rw [show 6 * 0 + x = x by omega, f8 _ _ _ (by omega), f7 _ _ _ (by omega), hI6.lo (by omega), b1.get (by omega)]; exact i4 x hx
            · rw [agedR_pln hp8, fr.lo (by omega), (hT.hand hx).2.2.1, u1 x hx]
            · rw [hardR_pln hp8, fr.lo (by omega), (hT.wood hx).2.2.1, u2 x hx]
            · rw [show 4 * 0 + x = x by omega, k3 _ _ (by omega), t5.get (by omega)]; exact n3 x hx
            · obtain ⟨m1, m2, m3⟩ := n2 x hx
              obtain ⟨m4, m5, m6, m7⟩ := i3 x hx
              rw [show 10 * 0 + x = x by omega, k3 79 _ (by omega), k3 80 _ (by omega), k4 81 _ (by omega), k4 82 _ (by omega), k3 83 _ (by omega), k4 84 _ (by omega), t2.get (by omega), t3.get (by omega), t4.get (by omega), a1.get (by omega), a2.get (by omega), a3.get (by omega), m1, m2, m3]
              refine ⟨rfl, rfl, m4, m5, ?_, m6, fun k hk => ?_⟩
              · rcases (xQ x hx).2 with z | z <;> rw [z] <;> decide
              · rw [show 60 * 0 + 6 * x + k = 6 * x + k by omega, f8 _ _ _ (by omega), f7 _ _ _ (by omega), c1.get (by omega)]; exact m7 k hk
            · rw [likeR_pln hp8, fr.lo (by omega), hT.2.2.2.2.2.1.1, u3]
            · rw [hp8.2.1, if_neg (by decide)]; exact u4
          refine hK I8 L7 (hR1.upd (fr.mono (fun a c z => by unfold updF; omega)) (fun a b c _ _ q3 => y7 a b c q3) hp8 hS8 (fun c hc => ?_) ⟨xN, w7.trans i6⟩ ⟨v8, fun i hi => absurd (show i < 0 from hi) (by omega)⟩) (f1.Y.tr (ony_Y fr (by omega)))
          rw [k3 _ _ (by omega), t4.get (by omega)]
          split
          · exact Or.inr rfl
          · exact Or.inl rfl
