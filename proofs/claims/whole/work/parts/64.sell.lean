theorem RC.mk1 {A : aA} {I I2 I3 : zI} {L : zJ} {P : zP} {S' : aS} {U' : aU} (hC : RC A I P) (f2 : ony (fun a _ => a = 0 ∨ a = 13) I I2) (hD2 : RCd A.T S' U' I2) (e : ∀ a b c, ¬ (b = 0 ∧ (a = 31 ∨ a = 35 ∨ a = 36 ∨ a = 37 ∨ (a = 8 ∧ c = 17))) → I3 a b c = I2 a b c) (e0 : ∀ x, x < A.T.1 0 → I3 31 0 x = S' 0 x) (e2 : ∀ x, x < A.T.1 1 → I3 35 0 x = S' 2 x) (e3 : ∀ x, x < A.T.1 2 → I3 36 0 x = S' 3 x ∧ I3 37 0 x = S' 4 x) (e7 : I3 8 0 17 = nI (bsum (S' 7) (A.T.1 2))) (hs : ∀ f i, ¬ (f = 0 ∨ f = 2 ∨ f = 3 ∨ f = 4 ∨ f = 7) → S' f i = A.S f i) : RC (updA A S' U') I3 P ∧ frX I I3 L L := by
  obtain ⟨t, hT, h11, h8, hS⟩ := hC.b
  have r1 : ∀ a b cc, ¬ (b = 0 ∧ (a = 31 ∨ a = 35 ∨ a = 36 ∨ a = 37 ∨ (a = 8 ∧ cc = 17) ∨ a = 0 ∨ a = 13)) → I3 a b cc = I a b cc := fun a b cc q => (e a b cc (fun z => q ⟨z.1, by omega⟩)).trans (f2 a b cc (fun z => q ⟨z.1, by omega⟩))
  refine ⟨hC.upd (fun a b cc q _ => r1 a b cc (fun e => q ⟨e.1, by omega⟩)) (hS.upd e0 e2 e3 e7 (fun a cc q q1 q2 q3 q4 q5 => ?_) hs) (hD2.cg (e _ _ _ (by omega)) (fun _ => e _ _ _ (by omega))), frX_of (fun a b cc q => r1 a b cc (by omega))⟩
  refine r1 _ _ _ (fun z => ?_)
  unfold csK at q
  simp only [Bool.or_eq_true, Bool.and_eq_true, Nat.ble_eq, beq_iff_eq] at q
  omega
theorem RR.mk1 {A : aA} {I1 I2 I3 : zI} {L : zJ} {S' : aS} {U' : aU} (hR1 : RR A I1 L) (f2 : ony remF I1 I2) (u2 : I2 12 0 73 = nI U'.1) (sn : ∀ i, i < U'.1 → snp A.T (U'.2 i) I2 91 (40 * i)) (e : ∀ a b c, ¬ (b = 0 ∧ (a = 76 ∨ a = 78 ∨ a = 79 ∨ a = 80 ∨ a = 83)) → I3 a b c = I2 a b c) (e0 : ∀ x, x < A.T.1 0 → I3 76 0 x = S' 0 x) (e2 : ∀ x, x < A.T.1 1 → I3 78 0 x = S' 2 x) (e3 : ∀ x, x < A.T.1 2 → I3 79 0 x = S' 3 x ∧ I3 80 0 x = S' 4 x ∧ I3 83 0 x = S' 7 x) (hz : ∀ c, c < A.T.1 2 → zb (I3 83 0 c)) (hs : ∀ f i, ¬ (f = 0 ∨ f = 2 ∨ f = 3 ∨ f = 4 ∨ f = 7) → S' f i = A.S f i) (h4 : ∀ r, r < A.T.1 2 → ¬ A.S 5 r = 0 → S' 4 r = A.S 4 r) : RR (updA A S' U') I3 L ∧ frY I1 I3 := by
  have hT := hR1.1
  have hS := hR1.2.1
  have hp := hR1.2.2.1
  have h6 := hT.h6
  have r0 : ony (fun a c => a = 76 ∨ a = 78 ∨ a = 79 ∨ a = 80 ∨ a = 83 ∨ remF a c) I1 I3 := fun a b c q => (e a b c (fun z => q ⟨z.1, by omega⟩)).trans (f2 a b c (fun z => q ⟨z.1, by omega⟩))
  have r2 : ony updF I1 I3 := r0.mono (fun a c z => by unfold updF; omega)
  have hp2 : pln I3 := by
    obtain ⟨z1, z2, z3, z4, z5⟩ := hp
    exact ⟨(r0.lo (by decide)).trans z1, (r0.lo (by decide)).trans z2, (r0.lo (by decide)).trans z3, (r0.lo (by decide)).trans z4, (r0.lo (by decide)).trans z5⟩
  refine ⟨hR1.upd r2 (fun _ _ _ _ _ _ => rfl) hp2 (hS.upd h6 hp hp2 e0 e2 e3 (fun a cc q q1 => r0.lo (fun z => ?_)) hs h4) hz (by rw [hs 10 0 (by omega)]; exact hR1.2.2.2.2.1) ⟨(e _ _ _ (by omega)).trans u2, fun i hi => (sn i hi).q (fun _ => e _ _ _ (by omega))⟩, ony_Y r2 updF_Y⟩
  unfold rsK at q
  simp only [Bool.or_eq_true, Bool.and_eq_true, Nat.ble_eq, beq_iff_eq] at q
  omega
theorem zs_r {M : zM} {k s a c : Nat} {v : Int32} (q : ¬ (a = k ∧ c = s)) : (zsI M k 0 s v).1 a 0 c = M.1 a 0 c := if_neg (fun e => q ⟨e.1, e.2.2⟩)
theorem zs_f {M : zM} {k s a b c : Nat} {v : Int32} (q : ¬ (b = 0 ∧ a = k)) : (zsI M k 0 s v).1 a b c = M.1 a b c := if_neg (fun e => q ⟨e.2.1, e.1⟩)
theorem zs_h {M : zM} {k s a c : Nat} {v : Int32} (q : a = k ∧ c = s) : (zsI M k 0 s v).1 a 0 c = v := if_pos ⟨q.1, rfl, q.2⟩
theorem su_r {S : aS} {f i a b : Nat} {v : Int32} (q : ¬ (a = f ∧ b = i)) : su S f i v a b = S a b := if_neg q
theorem su_h {S : aS} {f i a b : Nat} {v : Int32} (q : a = f ∧ b = i) : su S f i v a b = v := if_pos q
theorem su_7 {S : aS} {f i : Nat} {v : Int32} (q : ¬ f = 7) : su S f i v 7 = S 7 := by funext b; exact su_r (fun e => q e.1.symm)
-- warm
abbrev okW (A : aA) (h c : Int32) : Prop := okN (A.T.1 0) h ∧ okI c 0 9 ∧ ¬ A.S 0 h.toNatClampNeg = c
def s_warm (A : aA) (h c : Int32) : aA × Int32 := if okW A h c then (updA A (su A.S 0 h.toNatClampNeg c) (push A.U A.S), 1) else (A, 0)
theorem c_warm {K : zQ} {I : zI} {L : zJ} {P : zP} {A : aA} {h c : Int32} (hC : RC A I P) (hK : ∀ (I' : zI), RC (s_warm A h c).1 I' P → frX I I' L L → K [.inl (s_warm A h c).2] (I', L, P)) : mX11_warm K [kbR, .inl h, .inl c] (I, L, P) := by
  obtain ⟨t, hT, h11, h8, hS⟩ := hC.b
  have h6 := hT.h6
  have bad : ¬ okW A h c → zb 0 ∧ K [.inl 0] (I, L, P) := fun z => by
    unfold s_warm at hK
    rw [if_neg z] at hK
    exact ⟨Or.inl rfl, hK I hC frX.rf⟩
  show bX11_warm_0 K [some (.inr (.inr (11,0))), some (.inl h), some (.inl c)] [] (I, L, P)
  unfold bX11_warm_0
  dsimp only [x_int, x_lng, x_ild, x_lld, x_ald, x_ist, x_ast, x_lst, x_inc, x_ii, x_id, x_i, x_ll, x_ld, x_l, x_cmp, x_i2l, x_l2i, x_if, x_ic, x_dup, x_pop, x_dup2, x_gI, x_gL, x_gR, x_g1, x_g0, x_gP, x_pI, x_pZ, x_pL, x_pP, x_al, x_as, x_all, x_asl, x_alr, x_len, x_cpy, x_m2, x_m1, x_m2l, x_m1l, x_call, x_cv, x_ri, x_rz, x_rl, x_rv, zg, zset, zbef, zlong, zcat, cond_true, cond_false, List.take, List.drop, rv1, rv2, rv3, rv4, rv5, rv6, rv7, sm0, sm1, bl0, bl1, bl2, bl3, bl4, bl5, bl6, bl7, bl8, List.nil_append, List.cons_append, List.length_cons, List.length_nil, Nat.reduceBEq, Nat.reduceAdd, Nat.reduceSub, ta, tb, tn0, tn1, tn2, tn3, tn4, tn5, tn6, tn7, tn8, tn9, tn10, tn11, tn12, bX11_warm_31]
  refine p_isHandC hT h11 (fun ok => ?_) (fun no => ⟨fun _ => bad (fun z => no z.1), fun z => absurd rfl z⟩)
  dsimp only [x_int, x_lng, x_ild, x_lld, x_ald, x_ist, x_ast, x_lst, x_inc, x_ii, x_id, x_i, x_ll, x_ld, x_l, x_cmp, x_i2l, x_l2i, x_if, x_ic, x_dup, x_pop, x_dup2, x_gI, x_gL, x_gR, x_g1, x_g0, x_gP, x_pI, x_pZ, x_pL, x_pP, x_al, x_as, x_all, x_asl, x_alr, x_len, x_cpy, x_m2, x_m1, x_m2l, x_m1l, x_call, x_cv, x_ri, x_rz, x_rl, x_rv, zg, zset, zbef, zlong, zcat, cond_true, cond_false, List.take, List.drop, rv1, rv2, rv3, rv4, rv5, rv6, rv7, sm0, sm1, bl0, bl1, bl2, bl3, bl4, bl5, bl6, bl7, bl8, List.nil_append, List.cons_append, List.length_cons, List.length_nil, Nat.reduceBEq, Nat.reduceAdd, Nat.reduceSub, ta, tb, tn0, tn1, tn2, tn3, tn4, tn5, tn6, tn7, tn8, tn9, tn10, tn11, tn12, zk_31, zl_31, bX11_warm_31]
  refine ⟨fun z => absurd z (by decide), fun _ => ⟨fun c1 => bad (fun z => Int32.not_lt.mpr z.2.1.1 c1), fun c1 => ⟨fun c2 => bad (fun z => Int32.not_lt.mpr z.2.1.2 c2), fun c2 => ?_⟩⟩⟩
  obtain ⟨x, rfl, hx⟩ := ok_of (by omega) ok
  rw [n_cl (n := x) (by omega), (hS.1 x hx).1]
  have zx : zin (nI x) 6 := n_zin (by omega) (by decide)
  refine ⟨zx, fun e => bad (fun z => z.2.2 (by rw [n_cl (n := x) (by omega)]; exact e)), fun e => ⟨zx, ?_⟩⟩
  have good : okW A (nI x) c := ⟨ok, ⟨Int32.not_lt.mp c1, Int32.not_lt.mp c2⟩, by rw [n_cl (n := x) (by omega)]; exact e⟩
  unfold s_warm at hK
  rw [if_pos good, n_cl (n := x) (by omega)] at hK
  have hD : RCd A.T A.S A.U I := by obtain ⟨t, -, -, -, -, hD, -⟩ := hC; exact hD
  refine p_add (S' := su A.S 0 x c) (d := fun q => match q with
    | 0 => 0
    | 1 => nI x
    | 2 => A.S 0 x
    | _ => 0) hD (Or.inl ⟨rfl, x, hx, rfl, uE_of (fun a b => su_su a b rfl)⟩) (fun I2 f2 hD2 => ?_)
  dsimp only [x_int, x_lng, x_ild, x_lld, x_ald, x_ist, x_ast, x_lst, x_inc, x_ii, x_id, x_i, x_ll, x_ld, x_l, x_cmp, x_i2l, x_l2i, x_if, x_ic, x_dup, x_pop, x_dup2, x_gI, x_gL, x_gR, x_g1, x_g0, x_gP, x_pI, x_pZ, x_pL, x_pP, x_al, x_as, x_all, x_asl, x_alr, x_len, x_cpy, x_m2, x_m1, x_m2l, x_m1l, x_call, x_cv, x_ri, x_rz, x_rl, x_rv, zg, zset, zbef, zlong, zcat, cond_true, cond_false, List.take, List.drop, rv1, rv2, rv3, rv4, rv5, rv6, rv7, sm0, sm1, bl0, bl1, bl2, bl3, bl4, bl5, bl6, bl7, bl8, List.nil_append, List.cons_append, List.length_cons, List.length_nil, Nat.reduceBEq, Nat.reduceAdd, Nat.reduceSub, ta, tb, tn0, tn1, tn2, tn3, tn4, tn5, tn6, tn7, tn8, tn9, tn10, tn11, tn12, zk_31, zl_31]
  try rw [n_cl (n := x) (by omega)]
  refine ⟨zx, Or.inr rfl, ?_⟩
  obtain ⟨q1, q2⟩ := RC.mk1 (I3 := (zsI (I2, L, P) 31 0 x c).1) (L := L) hC f2 hD2 (fun a b c q => zs_f (fun z => q ⟨z.1, by omega⟩)) (fun y hy => by
    by_cases e : y = x
    · rw [zs_h ⟨rfl, e⟩, su_h ⟨rfl, e⟩]
    · rw [zs_r (by omega), su_r (by omega)]; exact (f2.lo (by omega)).trans (hS.1 y hy).1) (fun y hy => by rw [zs_r (by omega), su_r (by omega)]; exact (f2.lo (by omega)).trans (hS.2.1 y hy).2) (fun y hy => by
    obtain ⟨c1, c2, -⟩ := hS.2.2.1 y hy
    rw [zs_r (by omega), zs_r (by omega), su_r (by omega), su_r (by omega)]; exact ⟨(f2.lo (by omega)).trans c1, (f2.lo (by omega)).trans c2⟩) (by rw [zs_r (by omega), su_7 (by decide)]; exact (f2.lo (by omega)).trans hS.2.2.2.2.2.2.2) (fun f i q => su_r (fun z => q (by omega)))
  exact hK _ q1 q2
theorem r_warm {K : zQ} {I : zI} {L : zJ} {P : zP} {A : aA} {h c : Int32} (hu : A.U.1 ≤ 20) (hR : RR A I L) (hK : ∀ (I' : zI), RR (s_warm A h c).1 I' L → frY I I' → K [.inl (s_warm A h c).2] (I', L, P)) : mX12_warm K [refR, .inl h, .inl c] (I, L, P) := by
  show bX12_warm_0 K [some (.inr (.inr (12,0))), some (.inl h), some (.inl c)] [] (I, L, P)
  unfold bX12_warm_0
  obtain ⟨I1, e9, hR1, f1⟩ := r_thr P hR
  dsimp only [x_ald, x_int, x_pI, zg, Nat.reduceBEq, cond_true]
  rw [e9]
  have hT := hR1.1
  have hS := hR1.2.1
  have hp := hR1.2.2.1
  have h6 := hT.h6
  have w4 := hT.w4
  have r10 := hT.r10
  have bad : ¬ okW A h c → zb 0 ∧ K [.inl 0] (I1, L, P) := fun z => by
    unfold s_warm at hK
    rw [if_neg z] at hK
    exact ⟨Or.inl rfl, hK I1 hR1 f1.Y⟩
  dsimp only [x_int, x_lng, x_ild, x_lld, x_ald, x_ist, x_ast, x_lst, x_inc, x_ii, x_id, x_i, x_ll, x_ld, x_l, x_cmp, x_i2l, x_l2i, x_if, x_ic, x_dup, x_pop, x_dup2, x_gI, x_gL, x_gR, x_g1, x_g0, x_gP, x_pI, x_pZ, x_pL, x_pP, x_al, x_as, x_all, x_asl, x_alr, x_len, x_cpy, x_m2, x_m1, x_m2l, x_m1l, x_call, x_cv, x_ri, x_rz, x_rl, x_rv, zg, zset, zbef, zlong, zcat, cond_true, cond_false, List.take, List.drop, rv1, rv2, rv3, rv4, rv5, rv6, rv7, sm0, sm1, bl0, bl1, bl2, bl3, bl4, bl5, bl6, bl7, bl8, List.nil_append, List.cons_append, List.length_cons, List.length_nil, Nat.reduceBEq, Nat.reduceAdd, Nat.reduceSub, ta, tb, tn0, tn1, tn2, tn3, tn4, tn5, tn6, tn7, tn8, tn9, tn10, tn11, tn12, bX12_warm_33]
  refine p_isHandR hT (fun ok => ?_) (fun no => ⟨fun _ => bad (fun z => no z.1), fun z => absurd rfl z⟩)
  dsimp only [x_int, x_lng, x_ild, x_lld, x_ald, x_ist, x_ast, x_lst, x_inc, x_ii, x_id, x_i, x_ll, x_ld, x_l, x_cmp, x_i2l, x_l2i, x_if, x_ic, x_dup, x_pop, x_dup2, x_gI, x_gL, x_gR, x_g1, x_g0, x_gP, x_pI, x_pZ, x_pL, x_pP, x_al, x_as, x_all, x_asl, x_alr, x_len, x_cpy, x_m2, x_m1, x_m2l, x_m1l, x_call, x_cv, x_ri, x_rz, x_rl, x_rv, zg, zset, zbef, zlong, zcat, cond_true, cond_false, List.take, List.drop, rv1, rv2, rv3, rv4, rv5, rv6, rv7, sm0, sm1, bl0, bl1, bl2, bl3, bl4, bl5, bl6, bl7, bl8, List.nil_append, List.cons_append, List.length_cons, List.length_nil, Nat.reduceBEq, Nat.reduceAdd, Nat.reduceSub, ta, tb, tn0, tn1, tn2, tn3, tn4, tn5, tn6, tn7, tn8, tn9, tn10, tn11, tn12, zk_76, zl_76, bX12_warm_33]
  refine ⟨fun z => absurd z (by decide), fun _ => p_isIn (fun ok2 => ?_) (fun no => ⟨fun _ => bad (fun z => no z.2.1), fun z => absurd rfl z⟩)⟩
  dsimp only [x_int, x_lng, x_ild, x_lld, x_ald, x_ist, x_ast, x_lst, x_inc, x_ii, x_id, x_i, x_ll, x_ld, x_l, x_cmp, x_i2l, x_l2i, x_if, x_ic, x_dup, x_pop, x_dup2, x_gI, x_gL, x_gR, x_g1, x_g0, x_gP, x_pI, x_pZ, x_pL, x_pP, x_al, x_as, x_all, x_asl, x_alr, x_len, x_cpy, x_m2, x_m1, x_m2l, x_m1l, x_call, x_cv, x_ri, x_rz, x_rl, x_rv, zg, zset, zbef, zlong, zcat, cond_true, cond_false, List.take, List.drop, rv1, rv2, rv3, rv4, rv5, rv6, rv7, sm0, sm1, bl0, bl1, bl2, bl3, bl4, bl5, bl6, bl7, bl8, List.nil_append, List.cons_append, List.length_cons, List.length_nil, Nat.reduceBEq, Nat.reduceAdd, Nat.reduceSub, ta, tb, tn0, tn1, tn2, tn3, tn4, tn5, tn6, tn7, tn8, tn9, tn10, tn11, tn12, zk_76, zl_76, bX12_warm_33]
  obtain ⟨x, rfl, hx⟩ := ok_of (by omega) ok
  have s1 := (hS.1 x hx).1
  rw [coldR_pln hp (by omega), show 6 * 0 + x = x by omega] at s1
  rw [n_cl (n := x) (by omega), s1]
  have zx : zin (nI x) 12 := n_zin (by omega) (by decide)
  refine ⟨fun z => absurd z (by decide), fun _ => ⟨zx, fun e => bad (fun z => z.2.2 (by rw [n_cl (n := x) (by omega)]; exact e)), fun e => ?_⟩⟩
  have good : okW A (nI x) c := ⟨ok, ok2, by rw [n_cl (n := x) (by omega)]; exact e⟩
  unfold s_warm at hK
  rw [if_pos good, n_cl (n := x) (by omega)] at hK
  refine p_remember hu hR1 (fun I2 f2 u2 sn => ?_)
  dsimp only [x_int, x_lng, x_ild, x_lld, x_ald, x_ist, x_ast, x_lst, x_inc, x_ii, x_id, x_i, x_ll, x_ld, x_l, x_cmp, x_i2l, x_l2i, x_if, x_ic, x_dup, x_pop, x_dup2, x_gI, x_gL, x_gR, x_g1, x_g0, x_gP, x_pI, x_pZ, x_pL, x_pP, x_al, x_as, x_all, x_asl, x_alr, x_len, x_cpy, x_m2, x_m1, x_m2l, x_m1l, x_call, x_cv, x_ri, x_rz, x_rl, x_rv, zg, zset, zbef, zlong, zcat, cond_true, cond_false, List.take, List.drop, rv1, rv2, rv3, rv4, rv5, rv6, rv7, sm0, sm1, bl0, bl1, bl2, bl3, bl4, bl5, bl6, bl7, bl8, List.nil_append, List.cons_append, List.length_cons, List.length_nil, Nat.reduceBEq, Nat.reduceAdd, Nat.reduceSub, ta, tb, tn0, tn1, tn2, tn3, tn4, tn5, tn6, tn7, tn8, tn9, tn10, tn11, tn12, zk_76, zl_76]
  try rw [n_cl (n := x) (by omega)]
  refine ⟨zx, Or.inr rfl, ?_⟩
  obtain ⟨q1, q2⟩ := RR.mk1 (I3 := (zsI (I2, L, P) 76 0 x c).1) (S' := su A.S 0 x c) hR1 f2 u2 sn (fun a b c q => zs_f (fun z => q ⟨z.1, by omega⟩)) (fun y hy => by
    have := (hS.1 y hy).1
    rw [coldR_pln hp (by omega), show 6 * 0 + y = y by omega] at this
    by_cases e : y = x
    · rw [zs_h ⟨rfl, e⟩, su_h ⟨rfl, e⟩]
    · rw [zs_r (by omega), su_r (by omega)]; exact (f2.lo (by omega)).trans this) (fun y hy => by
    have := (hS.2.1 y hy).2
    rw [show 4 * 0 + y = y by omega] at this
    rw [zs_r (by omega), su_r (by omega)]; exact (f2.lo (by omega)).trans this) (fun y hy => by
    obtain ⟨b1, b2, b3, b4, b5, -⟩ := hS.2.2.1 y hy
    rw [show 10 * 0 + y = y by omega] at b1 b2 b5
    rw [zs_r (by omega), zs_r (by omega), zs_r (by omega), su_r (by omega), su_r (by omega), su_r (by omega)]; exact ⟨(f2.lo (by omega)).trans b1, (f2.lo (by omega)).trans b2, (f2.lo (by omega)).trans b5⟩) (fun c hc => by rw [zs_r (by omega)]; exact (congrArg zb (f2.lo (by omega))).mpr (hR1.2.2.2.1 c hc)) (fun f i q => su_r (fun z => q (by omega))) (fun r _ _ => su_r (by omega))
  exact hK _ q1 (f1.Y.tr q2)
-- sell
abbrev okS (A : aA) (w h : Int32) : Prop := okN (A.T.1 1) w ∧ okN (A.T.1 0) h ∧ ¬ A.S 2 w.toNatClampNeg = h
def s_sell (A : aA) (w h : Int32) : aA × Int32 := if okS A w h then (updA A (su A.S 2 w.toNatClampNeg h) (push A.U A.S), 1) else (A, 0)
theorem c_sell {K : zQ} {I : zI} {L : zJ} {P : zP} {A : aA} {w h : Int32} (hC : RC A I P) (hK : ∀ (I' : zI), RC (s_sell A w h).1 I' P → frX I I' L L → K [.inl (s_sell A w h).2] (I', L, P)) : mX11_sell K [kbR, .inl w, .inl h] (I, L, P) := by
  obtain ⟨t, hT, h11, h8, hS⟩ := hC.b
  have w4 := hT.w4
  have bad : ¬ okS A w h → zb 0 ∧ K [.inl 0] (I, L, P) := fun z => by
    unfold s_sell at hK
    rw [if_neg z] at hK
    exact ⟨Or.inl rfl, hK I hC frX.rf⟩
  show bX11_sell_0 K [some (.inr (.inr (11,0))), some (.inl w), some (.inl h)] [] (I, L, P)
  unfold bX11_sell_0
  dsimp only [x_int, x_lng, x_ild, x_lld, x_ald, x_ist, x_ast, x_lst, x_inc, x_ii, x_id, x_i, x_ll, x_ld, x_l, x_cmp, x_i2l, x_l2i, x_if, x_ic, x_dup, x_pop, x_dup2, x_gI, x_gL, x_gR, x_g1, x_g0, x_gP, x_pI, x_pZ, x_pL, x_pP, x_al, x_as, x_all, x_asl, x_alr, x_len, x_cpy, x_m2, x_m1, x_m2l, x_m1l, x_call, x_cv, x_ri, x_rz, x_rl, x_rv, zg, zset, zbef, zlong, zcat, cond_true, cond_false, List.take, List.drop, rv1, rv2, rv3, rv4, rv5, rv6, rv7, sm0, sm1, bl0, bl1, bl2, bl3, bl4, bl5, bl6, bl7, bl8, List.nil_append, List.cons_append, List.length_cons, List.length_nil, Nat.reduceBEq, Nat.reduceAdd, Nat.reduceSub, ta, tb, tn0, tn1, tn2, tn3, tn4, tn5, tn6, tn7, tn8, tn9, tn10, tn11, tn12, bX11_sell_29]
  refine p_isWoodC hT h11 (fun ok => ?_) (fun no => ⟨fun _ => bad (fun z => no z.1), fun z => absurd rfl z⟩)
  dsimp only [x_int, x_lng, x_ild, x_lld, x_ald, x_ist, x_ast, x_lst, x_inc, x_ii, x_id, x_i, x_ll, x_ld, x_l, x_cmp, x_i2l, x_l2i, x_if, x_ic, x_dup, x_pop, x_dup2, x_gI, x_gL, x_gR, x_g1, x_g0, x_gP, x_pI, x_pZ, x_pL, x_pP, x_al, x_as, x_all, x_asl, x_alr, x_len, x_cpy, x_m2, x_m1, x_m2l, x_m1l, x_call, x_cv, x_ri, x_rz, x_rl, x_rv, zg, zset, zbef, zlong, zcat, cond_true, cond_false, List.take, List.drop, rv1, rv2, rv3, rv4, rv5, rv6, rv7, sm0, sm1, bl0, bl1, bl2, bl3, bl4, bl5, bl6, bl7, bl8, List.nil_append, List.cons_append, List.length_cons, List.length_nil, Nat.reduceBEq, Nat.reduceAdd, Nat.reduceSub, ta, tb, tn0, tn1, tn2, tn3, tn4, tn5, tn6, tn7, tn8, tn9, tn10, tn11, tn12, bX11_sell_29]
  refine ⟨fun z => absurd z (by decide), fun _ => p_isHandC hT h11 (fun ok2 => ?_) (fun no => ⟨fun _ => bad (fun z => no z.2.1), fun z => absurd rfl z⟩)⟩
  dsimp only [x_int, x_lng, x_ild, x_lld, x_ald, x_ist, x_ast, x_lst, x_inc, x_ii, x_id, x_i, x_ll, x_ld, x_l, x_cmp, x_i2l, x_l2i, x_if, x_ic, x_dup, x_pop, x_dup2, x_gI, x_gL, x_gR, x_g1, x_g0, x_gP, x_pI, x_pZ, x_pL, x_pP, x_al, x_as, x_all, x_asl, x_alr, x_len, x_cpy, x_m2, x_m1, x_m2l, x_m1l, x_call, x_cv, x_ri, x_rz, x_rl, x_rv, zg, zset, zbef, zlong, zcat, cond_true, cond_false, List.take, List.drop, rv1, rv2, rv3, rv4, rv5, rv6, rv7, sm0, sm1, bl0, bl1, bl2, bl3, bl4, bl5, bl6, bl7, bl8, List.nil_append, List.cons_append, List.length_cons, List.length_nil, Nat.reduceBEq, Nat.reduceAdd, Nat.reduceSub, ta, tb, tn0, tn1, tn2, tn3, tn4, tn5, tn6, tn7, tn8, tn9, tn10, tn11, tn12, zk_35, zl_35, bX11_sell_29]
  obtain ⟨x, rfl, hx⟩ := ok_of (by omega) ok
  rw [n_cl (n := x) (by omega), (hS.2.1 x hx).2]
  have zx : zin (nI x) 4 := n_zin (by omega) (by decide)
  refine ⟨fun z => absurd z (by decide), fun _ => ⟨zx, fun e => bad (fun z => z.2.2 (by rw [n_cl (n := x) (by omega)]; exact e)), fun e => ⟨zx, ?_⟩⟩⟩
  have good : okS A (nI x) h := ⟨ok, ok2, by rw [n_cl (n := x) (by omega)]; exact e⟩
  unfold s_sell at hK
  rw [if_pos good, n_cl (n := x) (by omega)] at hK
  have hD : RCd A.T A.S A.U I := by obtain ⟨t, -, -, -, -, hD, -⟩ := hC; exact hD
  refine p_add (S' := su A.S 2 x h) (d := fun q => match q with
    | 0 => 2
    | 1 => nI x
    | 2 => A.S 2 x
    | _ => 0) hD (Or.inr (Or.inr (Or.inl ⟨rfl, x, hx, rfl, uE_of (fun a b => su_su a b rfl)⟩))) (fun I2 f2 hD2 => ?_)
  dsimp only [x_int, x_lng, x_ild, x_lld, x_ald, x_ist, x_ast, x_lst, x_inc, x_ii, x_id, x_i, x_ll, x_ld, x_l, x_cmp, x_i2l, x_l2i, x_if, x_ic, x_dup, x_pop, x_dup2, x_gI, x_gL, x_gR, x_g1, x_g0, x_gP, x_pI, x_pZ, x_pL, x_pP, x_al, x_as, x_all, x_asl, x_alr, x_len, x_cpy, x_m2, x_m1, x_m2l, x_m1l, x_call, x_cv, x_ri, x_rz, x_rl, x_rv, zg, zset, zbef, zlong, zcat, cond_true, cond_false, List.take, List.drop, rv1, rv2, rv3, rv4, rv5, rv6, rv7, sm0, sm1, bl0, bl1, bl2, bl3, bl4, bl5, bl6, bl7, bl8, List.nil_append, List.cons_append, List.length_cons, List.length_nil, Nat.reduceBEq, Nat.reduceAdd, Nat.reduceSub, ta, tb, tn0, tn1, tn2, tn3, tn4, tn5, tn6, tn7, tn8, tn9, tn10, tn11, tn12, zk_35, zl_35]
  try rw [n_cl (n := x) (by omega)]
  refine ⟨zx, Or.inr rfl, ?_⟩
  obtain ⟨q1, q2⟩ := RC.mk1 (I3 := (zsI (I2, L, P) 35 0 x h).1) (L := L) hC f2 hD2 (fun a b c q => zs_f (fun z => q ⟨z.1, by omega⟩)) (fun y hy => by rw [zs_r (by omega), su_r (by omega)]; exact (f2.lo (by omega)).trans (hS.1 y hy).1) (fun y hy => by
    by_cases e : y = x
    · rw [zs_h ⟨rfl, e⟩, su_h ⟨rfl, e⟩]
    · rw [zs_r (by omega), su_r (by omega)]; exact (f2.lo (by omega)).trans (hS.2.1 y hy).2) (fun y hy => by
    obtain ⟨c1, c2, -⟩ := hS.2.2.1 y hy
    rw [zs_r (by omega), zs_r (by omega), su_r (by omega), su_r (by omega)]; exact ⟨(f2.lo (by omega)).trans c1, (f2.lo (by omega)).trans c2⟩) (by rw [zs_r (by omega), su_7 (by decide)]; exact (f2.lo (by omega)).trans hS.2.2.2.2.2.2.2) (fun f i q => su_r (fun z => q (by omega)))
  exact hK _ q1 q2
theorem r_sell {K : zQ} {I : zI} {L : zJ} {P : zP} {A : aA} {w h : Int32} (hu : A.U.1 ≤ 20) (hR : RR A I L) (hK : ∀ (I' : zI), RR (s_sell A w h).1 I' L → frY I I' → K [.inl (s_sell A w h).2] (I', L, P)) : mX12_sell K [refR, .inl w, .inl h] (I, L, P) := by
  show bX12_sell_0 K [some (.inr (.inr (12,0))), some (.inl w), some (.inl h)] [] (I, L, P)
  unfold bX12_sell_0
  obtain ⟨I1, e9, hR1, f1⟩ := r_thr P hR
  dsimp only [x_ald, x_int, x_pI, zg, Nat.reduceBEq, cond_true]
  rw [e9]
  have hT := hR1.1
  have hS := hR1.2.1
  have hp := hR1.2.2.1
  have h6 := hT.h6
  have w4 := hT.w4
  have bad : ¬ okS A w h → zb 0 ∧ K [.inl 0] (I1, L, P) := fun z => by
    unfold s_sell at hK
    rw [if_neg z] at hK
    exact ⟨Or.inl rfl, hK I1 hR1 f1.Y⟩
  dsimp only [x_int, x_lng, x_ild, x_lld, x_ald, x_ist, x_ast, x_lst, x_inc, x_ii, x_id, x_i, x_ll, x_ld, x_l, x_cmp, x_i2l, x_l2i, x_if, x_ic, x_dup, x_pop, x_dup2, x_gI, x_gL, x_gR, x_g1, x_g0, x_gP, x_pI, x_pZ, x_pL, x_pP, x_al, x_as, x_all, x_asl, x_alr, x_len, x_cpy, x_m2, x_m1, x_m2l, x_m1l, x_call, x_cv, x_ri, x_rz, x_rl, x_rv, zg, zset, zbef, zlong, zcat, cond_true, cond_false, List.take, List.drop, rv1, rv2, rv3, rv4, rv5, rv6, rv7, sm0, sm1, bl0, bl1, bl2, bl3, bl4, bl5, bl6, bl7, bl8, List.nil_append, List.cons_append, List.length_cons, List.length_nil, Nat.reduceBEq, Nat.reduceAdd, Nat.reduceSub, ta, tb, tn0, tn1, tn2, tn3, tn4, tn5, tn6, tn7, tn8, tn9, tn10, tn11, tn12, bX12_sell_31]
  refine p_isWoodR hT (fun ok => ?_) (fun no => ⟨fun _ => bad (fun z => no z.1), fun z => absurd rfl z⟩)
  dsimp only [x_int, x_lng, x_ild, x_lld, x_ald, x_ist, x_ast, x_lst, x_inc, x_ii, x_id, x_i, x_ll, x_ld, x_l, x_cmp, x_i2l, x_l2i, x_if, x_ic, x_dup, x_pop, x_dup2, x_gI, x_gL, x_gR, x_g1, x_g0, x_gP, x_pI, x_pZ, x_pL, x_pP, x_al, x_as, x_all, x_asl, x_alr, x_len, x_cpy, x_m2, x_m1, x_m2l, x_m1l, x_call, x_cv, x_ri, x_rz, x_rl, x_rv, zg, zset, zbef, zlong, zcat, cond_true, cond_false, List.take, List.drop, rv1, rv2, rv3, rv4, rv5, rv6, rv7, sm0, sm1, bl0, bl1, bl2, bl3, bl4, bl5, bl6, bl7, bl8, List.nil_append, List.cons_append, List.length_cons, List.length_nil, Nat.reduceBEq, Nat.reduceAdd, Nat.reduceSub, ta, tb, tn0, tn1, tn2, tn3, tn4, tn5, tn6, tn7, tn8, tn9, tn10, tn11, tn12, bX12_sell_31]
  refine ⟨fun z => absurd z (by decide), fun _ => p_isHandR hT (fun ok2 => ?_) (fun no => ⟨fun _ => bad (fun z => no z.2.1), fun z => absurd rfl z⟩)⟩
  dsimp only [x_int, x_lng, x_ild, x_lld, x_ald, x_ist, x_ast, x_lst, x_inc, x_ii, x_id, x_i, x_ll, x_ld, x_l, x_cmp, x_i2l, x_l2i, x_if, x_ic, x_dup, x_pop, x_dup2, x_gI, x_gL, x_gR, x_g1, x_g0, x_gP, x_pI, x_pZ, x_pL, x_pP, x_al, x_as, x_all, x_asl, x_alr, x_len, x_cpy, x_m2, x_m1, x_m2l, x_m1l, x_call, x_cv, x_ri, x_rz, x_rl, x_rv, zg, zset, zbef, zlong, zcat, cond_true, cond_false, List.take, List.drop, rv1, rv2, rv3, rv4, rv5, rv6, rv7, sm0, sm1, bl0, bl1, bl2, bl3, bl4, bl5, bl6, bl7, bl8, List.nil_append, List.cons_append, List.length_cons, List.length_nil, Nat.reduceBEq, Nat.reduceAdd, Nat.reduceSub, ta, tb, tn0, tn1, tn2, tn3, tn4, tn5, tn6, tn7, tn8, tn9, tn10, tn11, tn12, zk_78, zl_78, bX12_sell_31]
  obtain ⟨x, rfl, hx⟩ := ok_of (by omega) ok
  have s1 := (hS.2.1 x hx).2
  rw [show 4 * 0 + x = x by omega] at s1
  rw [n_cl (n := x) (by omega), s1]
  have zx : zin (nI x) 8 := n_zin (by omega) (by decide)
  refine ⟨fun z => absurd z (by decide), fun _ => ⟨zx, fun e => bad (fun z => z.2.2 (by rw [n_cl (n := x) (by omega)]; exact e)), fun e => ?_⟩⟩
  have good : okS A (nI x) h := ⟨ok, ok2, by rw [n_cl (n := x) (by omega)]; exact e⟩
  unfold s_sell at hK
  rw [if_pos good, n_cl (n := x) (by omega)] at hK
  refine p_remember hu hR1 (fun I2 f2 u2 sn => ?_)
  dsimp only [x_int, x_lng, x_ild, x_lld, x_ald, x_ist, x_ast, x_lst, x_inc, x_ii, x_id, x_i, x_ll, x_ld, x_l, x_cmp, x_i2l, x_l2i, x_if, x_ic, x_dup, x_pop, x_dup2, x_gI, x_gL, x_gR, x_g1, x_g0, x_gP, x_pI, x_pZ, x_pL, x_pP, x_al, x_as, x_all, x_asl, x_alr, x_len, x_cpy, x_m2, x_m1, x_m2l, x_m1l, x_call, x_cv, x_ri, x_rz, x_rl, x_rv, zg, zset, zbef, zlong, zcat, cond_true, cond_false, List.take, List.drop, rv1, rv2, rv3, rv4, rv5, rv6, rv7, sm0, sm1, bl0, bl1, bl2, bl3, bl4, bl5, bl6, bl7, bl8, List.nil_append, List.cons_append, List.length_cons, List.length_nil, Nat.reduceBEq, Nat.reduceAdd, Nat.reduceSub, ta, tb, tn0, tn1, tn2, tn3, tn4, tn5, tn6, tn7, tn8, tn9, tn10, tn11, tn12, zk_78, zl_78]
  try rw [n_cl (n := x) (by omega)]
  refine ⟨zx, Or.inr rfl, ?_⟩
  obtain ⟨q1, q2⟩ := RR.mk1 (I3 := (zsI (I2, L, P) 78 0 x h).1) (S' := su A.S 2 x h) hR1 f2 u2 sn (fun a b c q => zs_f (fun z => q ⟨z.1, by omega⟩)) (fun y hy => by
    have := (hS.1 y hy).1
    rw [coldR_pln hp (by omega), show 6 * 0 + y = y by omega] at this
    rw [zs_r (by omega), su_r (by omega)]; exact (f2.lo (by omega)).trans this) (fun y hy => by
    have := (hS.2.1 y hy).2
    rw [show 4 * 0 + y = y by omega] at this
    by_cases e : y = x
    · rw [zs_h ⟨rfl, e⟩, su_h ⟨rfl, e⟩]
    · rw [zs_r (by omega), su_r (by omega)]; exact (f2.lo (by omega)).trans this) (fun y hy => by
    obtain ⟨b1, b2, b3, b4, b5, -⟩ := hS.2.2.1 y hy
    rw [show 10 * 0 + y = y by omega] at b1 b2 b5
    rw [zs_r (by omega), zs_r (by omega), zs_r (by omega), su_r (by omega), su_r (by omega), su_r (by omega)]; exact ⟨(f2.lo (by omega)).trans b1, (f2.lo (by omega)).trans b2, (f2.lo (by omega)).trans b5⟩) (fun c hc => by rw [zs_r (by omega)]; exact (congrArg zb (f2.lo (by omega))).mpr (hR1.2.2.2.1 c hc)) (fun f i q => su_r (fun z => q (by omega))) (fun r _ _ => su_r (by omega))
  exact hK _ q1 (f1.Y.tr q2)
-- order
abbrev okO (A : aA) (r w d : Int32) : Prop := okN (A.T.1 2) r ∧ okN (A.T.1 1) w ∧ okI d (A.S 9 0) 9999 ∧ A.S 5 r.toNatClampNeg = 0 ∧ ¬ (A.S 3 r.toNatClampNeg = w ∧ A.S 4 r.toNatClampNeg = d)
def s_order (A : aA) (r w d : Int32) : aA × Int32 := if okO A r w d then (updA A (su (su A.S 3 r.toNatClampNeg w) 4 r.toNatClampNeg d) (push A.U A.S), 1) else (A, 0)
theorem c_order {K : zQ} {I : zI} {L : zJ} {P : zP} {A : aA} {r w d : Int32} (hC : RC A I P) (hK : ∀ (I' : zI), RC (s_order A r w d).1 I' P → frX I I' L L → K [.inl (s_order A r w d).2] (I', L, P)) : mX11_order K [kbR, .inl r, .inl w, .inl d] (I, L, P) := by
  obtain ⟨t, hT, h11, h8, hS⟩ := hC.b
  have r10 := hT.r10
  have bad : ¬ okO A r w d → zb 0 ∧ K [.inl 0] (I, L, P) := fun z => by
    unfold s_order at hK
    rw [if_neg z] at hK
    exact ⟨Or.inl rfl, hK I hC frX.rf⟩
  show bX11_order_0 K [some (.inr (.inr (11,0))), some (.inl r), some (.inl w), some (.inl d)] [] (I, L, P)
  unfold bX11_order_0
  dsimp only [x_int, x_lng, x_ild, x_lld, x_ald, x_ist, x_ast, x_lst, x_inc, x_ii, x_id, x_i, x_ll, x_ld, x_l, x_cmp, x_i2l, x_l2i, x_if, x_ic, x_dup, x_pop, x_dup2, x_gI, x_gL, x_gR, x_g1, x_g0, x_gP, x_pI, x_pZ, x_pL, x_pP, x_al, x_as, x_all, x_asl, x_alr, x_len, x_cpy, x_m2, x_m1, x_m2l, x_m1l, x_call, x_cv, x_ri, x_rz, x_rl, x_rv, zg, zset, zbef, zlong, zcat, cond_true, cond_false, List.take, List.drop, rv1, rv2, rv3, rv4, rv5, rv6, rv7, sm0, sm1, bl0, bl1, bl2, bl3, bl4, bl5, bl6, bl7, bl8, List.nil_append, List.cons_append, List.length_cons, List.length_nil, Nat.reduceBEq, Nat.reduceAdd, Nat.reduceSub, ta, tb, tn0, tn1, tn2, tn3, tn4, tn5, tn6, tn7, tn8, tn9, tn10, tn11, tn12, bX11_order_34]
  refine p_isRapC hT h11 (fun ok => ?_) (fun no => ⟨fun _ => bad (fun z => no z.1), fun z => absurd rfl z⟩)
  dsimp only [x_int, x_lng, x_ild, x_lld, x_ald, x_ist, x_ast, x_lst, x_inc, x_ii, x_id, x_i, x_ll, x_ld, x_l, x_cmp, x_i2l, x_l2i, x_if, x_ic, x_dup, x_pop, x_dup2, x_gI, x_gL, x_gR, x_g1, x_g0, x_gP, x_pI, x_pZ, x_pL, x_pP, x_al, x_as, x_all, x_asl, x_alr, x_len, x_cpy, x_m2, x_m1, x_m2l, x_m1l, x_call, x_cv, x_ri, x_rz, x_rl, x_rv, zg, zset, zbef, zlong, zcat, cond_true, cond_false, List.take, List.drop, rv1, rv2, rv3, rv4, rv5, rv6, rv7, sm0, sm1, bl0, bl1, bl2, bl3, bl4, bl5, bl6, bl7, bl8, List.nil_append, List.cons_append, List.length_cons, List.length_nil, Nat.reduceBEq, Nat.reduceAdd, Nat.reduceSub, ta, tb, tn0, tn1, tn2, tn3, tn4, tn5, tn6, tn7, tn8, tn9, tn10, tn11, tn12, bX11_order_34]
  refine ⟨fun z => absurd z (by decide), fun _ => p_isWoodC hT h11 (fun ok2 => ?_) (fun no => ⟨fun _ => bad (fun z => no z.2.1), fun z => absurd rfl z⟩)⟩
  dsimp only [x_int, x_lng, x_ild, x_lld, x_ald, x_ist, x_ast, x_lst, x_inc, x_ii, x_id, x_i, x_ll, x_ld, x_l, x_cmp, x_i2l, x_l2i, x_if, x_ic, x_dup, x_pop, x_dup2, x_gI, x_gL, x_gR, x_g1, x_g0, x_gP, x_pI, x_pZ, x_pL, x_pP, x_al, x_as, x_all, x_asl, x_alr, x_len, x_cpy, x_m2, x_m1, x_m2l, x_m1l, x_call, x_cv, x_ri, x_rz, x_rl, x_rv, zg, zset, zbef, zlong, zcat, cond_true, cond_false, List.take, List.drop, rv1, rv2, rv3, rv4, rv5, rv6, rv7, sm0, sm1, bl0, bl1, bl2, bl3, bl4, bl5, bl6, bl7, bl8, List.nil_append, List.cons_append, List.length_cons, List.length_nil, Nat.reduceBEq, Nat.reduceAdd, Nat.reduceSub, ta, tb, tn0, tn1, tn2, tn3, tn4, tn5, tn6, tn7, tn8, tn9, tn10, tn11, tn12, zk_36, zl_36, zk_37, zl_37, zk_38, zl_38, bX11_order_34, bX11_order_74]
  obtain ⟨x, rfl, hx⟩ := ok_of (by omega) ok
  obtain ⟨c1, c2, c3, -⟩ := hS.2.2.1 x hx
  rw [hS.2.2.2.1, n_cl (n := x) (by omega), c1, c2, c3]
  have zx : zin (nI x) 10 := n_zin (by omega) (by decide)
  have ex := n_cl (n := x) (by omega)
  have go : okO A (nI x) w d → bX11_order_76 K [some kbR, some (.inl (nI x)), some (.inl w), some (.inl d)] [] (I, L, P) := fun good => by
    unfold s_order at hK
    rw [if_pos good, ex] at hK
    have hD : RCd A.T A.S A.U I := by obtain ⟨t, -, -, -, -, hD, -⟩ := hC; exact hD
    unfold bX11_order_76
    dsimp only [x_int, x_lng, x_ild, x_lld, x_ald, x_ist, x_ast, x_lst, x_inc, x_ii, x_id, x_i, x_ll, x_ld, x_l, x_cmp, x_i2l, x_l2i, x_if, x_ic, x_dup, x_pop, x_dup2, x_gI, x_gL, x_gR, x_g1, x_g0, x_gP, x_pI, x_pZ, x_pL, x_pP, x_al, x_as, x_all, x_asl, x_alr, x_len, x_cpy, x_m2, x_m1, x_m2l, x_m1l, x_call, x_cv, x_ri, x_rz, x_rl, x_rv, zg, zset, zbef, zlong, zcat, cond_true, cond_false, List.take, List.drop, rv1, rv2, rv3, rv4, rv5, rv6, rv7, sm0, sm1, bl0, bl1, bl2, bl3, bl4, bl5, bl6, bl7, bl8, List.nil_append, List.cons_append, List.length_cons, List.length_nil, Nat.reduceBEq, Nat.reduceAdd, Nat.reduceSub, ta, tb, tn0, tn1, tn2, tn3, tn4, tn5, tn6, tn7, tn8, tn9, tn10, tn11, tn12, zk_36, zl_36, zk_37, zl_37, zk_38, zl_38]
    rw [ex, c1, c2]
    refine ⟨zx, zx, p_add (S' := su (su A.S 3 x w) 4 x d) (d := fun q => match q with
      | 0 => 1
      | 1 => nI x
      | 2 => A.S 3 x
      | _ => A.S 4 x) hD (Or.inr (Or.inl ⟨rfl, x, hx, rfl, uE_of (fun a b => ?_)⟩)) (fun I2 f2 hD2 => ?_)⟩
    · show A.S a b = su (su (su (su A.S 3 x w) 4 x d) 3 x (A.S 3 x)) 4 x (A.S 4 x) a b
      by_cases e4 : a = 4 ∧ b = x
      · rw [su_h e4, e4.1, e4.2]
      · rw [su_r e4]
        by_cases e3 : a = 3 ∧ b = x
        · rw [su_h e3, e3.1, e3.2]
        · rw [su_r e3, su_r e4, su_r e3]
    · dsimp only [x_int, x_lng, x_ild, x_lld, x_ald, x_ist, x_ast, x_lst, x_inc, x_ii, x_id, x_i, x_ll, x_ld, x_l, x_cmp, x_i2l, x_l2i, x_if, x_ic, x_dup, x_pop, x_dup2, x_gI, x_gL, x_gR, x_g1, x_g0, x_gP, x_pI, x_pZ, x_pL, x_pP, x_al, x_as, x_all, x_asl, x_alr, x_len, x_cpy, x_m2, x_m1, x_m2l, x_m1l, x_call, x_cv, x_ri, x_rz, x_rl, x_rv, zg, zset, zbef, zlong, zcat, cond_true, cond_false, List.take, List.drop, rv1, rv2, rv3, rv4, rv5, rv6, rv7, sm0, sm1, bl0, bl1, bl2, bl3, bl4, bl5, bl6, bl7, bl8, List.nil_append, List.cons_append, List.length_cons, List.length_nil, Nat.reduceBEq, Nat.reduceAdd, Nat.reduceSub, ta, tb, tn0, tn1, tn2, tn3, tn4, tn5, tn6, tn7, tn8, tn9, tn10, tn11, tn12, zk_36, zl_36, zk_37, zl_37, zk_38, zl_38]
      try rw [ex]
      refine ⟨zx, zx, Or.inr rfl, ?_⟩
      obtain ⟨q1, q2⟩ := RC.mk1 (I3 := (zsI (zsI (I2, L, P) 36 0 x w) 37 0 x d).1) (L := L) hC f2 hD2 (fun a b c q => (zs_f (fun z => q ⟨z.1, by omega⟩)).trans (zs_f (fun z => q ⟨z.1, by omega⟩))) (fun y hy => by rw [zs_r (by omega), zs_r (by omega), su_r (by omega), su_r (by omega)]; exact (f2.lo (by omega)).trans (hS.1 y hy).1) (fun y hy => by rw [zs_r (by omega), zs_r (by omega), su_r (by omega), su_r (by omega)]; exact (f2.lo (by omega)).trans (hS.2.1 y hy).2) (fun y hy => by
        obtain ⟨c1, c2, -⟩ := hS.2.2.1 y hy
        by_cases e : y = x
        · rw [zs_r (by omega), zs_h ⟨rfl, e⟩, zs_h ⟨rfl, e⟩, su_r (by omega), su_h ⟨rfl, e⟩, su_h ⟨rfl, e⟩]; exact ⟨rfl, rfl⟩
        · rw [zs_r (by omega), zs_r (by omega), zs_r (by omega), zs_r (by omega), su_r (by omega), su_r (by omega), su_r (by omega), su_r (by omega)]; exact ⟨(f2.lo (by omega)).trans c1, (f2.lo (by omega)).trans c2⟩) (by rw [zs_r (by omega), zs_r (by omega), su_7 (by decide), su_7 (by decide)]; exact (f2.lo (by omega)).trans hS.2.2.2.2.2.2.2) (fun f i q => (su_r (fun z => q (by omega))).trans (su_r (fun z => q (by omega))))
      exact hK _ q1 q2
  refine ⟨fun z => absurd z (by decide), fun _ => ⟨fun d1 => bad (fun z => Int32.not_lt.mpr z.2.2.1.1 d1), fun d1 => ⟨fun d2 => ⟨zx, fun s => ⟨zx, fun e1 => ⟨zx, fun e2 => bad (fun z => z.2.2.2.2 (by rw [ex]; exact ⟨e1, e2⟩)), fun e2 => go ⟨ok, ok2, ⟨Int32.not_lt.mp d1, d2⟩, by rw [ex]; exact s, fun z => e2 (by rw [ex] at z; exact z.2)⟩⟩, fun e1 => go ⟨ok, ok2, ⟨Int32.not_lt.mp d1, d2⟩, by rw [ex]; exact s, fun z => e1 (by rw [ex] at z; exact z.1)⟩⟩, fun s => bad (fun z => s (by have := z.2.2.2.1; rw [ex] at this; exact this))⟩, fun d2 => bad (fun z => d2 z.2.2.1.2)⟩⟩⟩
theorem r_order {K : zQ} {I : zI} {L : zJ} {P : zP} {A : aA} {r w d : Int32} (hu : A.U.1 ≤ 20) (wQ : WQ A.T A.S) (hR : RR A I L) (hK : ∀ (I' : zI), RR (s_order A r w d).1 I' L → frY I I' → K [.inl (s_order A r w d).2] (I', L, P)) : mX12_order K [refR, .inl r, .inl w, .inl d] (I, L, P) := by
  show bX12_order_0 K [some (.inr (.inr (12,0))), some (.inl r), some (.inl w), some (.inl d)] [] (I, L, P)
  unfold bX12_order_0
  obtain ⟨I1, e9, hR1, f1⟩ := r_thr P hR
  dsimp only [x_ald, x_int, x_pI, zg, Nat.reduceBEq, cond_true]
  rw [e9]
  have hT := hR1.1
  have hS := hR1.2.1
  have hp := hR1.2.2.1
  have h6 := hT.h6
  have r10 := hT.r10
  have bad : ¬ okO A r w d → zb 0 ∧ K [.inl 0] (I1, L, P) := fun z => by
    unfold s_order at hK
    rw [if_neg z] at hK
    exact ⟨Or.inl rfl, hK I1 hR1 f1.Y⟩
  dsimp only [x_int, x_lng, x_ild, x_lld, x_ald, x_ist, x_ast, x_lst, x_inc, x_ii, x_id, x_i, x_ll, x_ld, x_l, x_cmp, x_i2l, x_l2i, x_if, x_ic, x_dup, x_pop, x_dup2, x_gI, x_gL, x_gR, x_g1, x_g0, x_gP, x_pI, x_pZ, x_pL, x_pP, x_al, x_as, x_all, x_asl, x_alr, x_len, x_cpy, x_m2, x_m1, x_m2l, x_m1l, x_call, x_cv, x_ri, x_rz, x_rl, x_rv, zg, zset, zbef, zlong, zcat, cond_true, cond_false, List.take, List.drop, rv1, rv2, rv3, rv4, rv5, rv6, rv7, sm0, sm1, bl0, bl1, bl2, bl3, bl4, bl5, bl6, bl7, bl8, List.nil_append, List.cons_append, List.length_cons, List.length_nil, Nat.reduceBEq, Nat.reduceAdd, Nat.reduceSub, ta, tb, tn0, tn1, tn2, tn3, tn4, tn5, tn6, tn7, tn8, tn9, tn10, tn11, tn12, bX12_order_66]
  refine p_isRapR hT (fun ok => ?_) (fun no => ⟨fun _ => bad (fun z => no z.1), fun z => absurd rfl z⟩)
  obtain ⟨x, rfl, hx⟩ := ok_of (by omega) ok
  have zx : zin (nI x) 20 := n_zin (by omega) (by decide)
  have ex := n_cl (n := x) (by omega)
  obtain ⟨b1, b2, b3, -⟩ := hS.2.2.1 x hx
  rw [show 10 * 0 + x = x by omega] at b1 b2 b3
  dsimp only [x_int, x_lng, x_ild, x_lld, x_ald, x_ist, x_ast, x_lst, x_inc, x_ii, x_id, x_i, x_ll, x_ld, x_l, x_cmp, x_i2l, x_l2i, x_if, x_ic, x_dup, x_pop, x_dup2, x_gI, x_gL, x_gR, x_g1, x_g0, x_gP, x_pI, x_pZ, x_pL, x_pP, x_al, x_as, x_all, x_asl, x_alr, x_len, x_cpy, x_m2, x_m1, x_m2l, x_m1l, x_call, x_cv, x_ri, x_rz, x_rl, x_rv, zg, zset, zbef, zlong, zcat, cond_true, cond_false, List.take, List.drop, rv1, rv2, rv3, rv4, rv5, rv6, rv7, sm0, sm1, bl0, bl1, bl2, bl3, bl4, bl5, bl6, bl7, bl8, List.nil_append, List.cons_append, List.length_cons, List.length_nil, Nat.reduceBEq, Nat.reduceAdd, Nat.reduceSub, ta, tb, tn0, tn1, tn2, tn3, tn4, tn5, tn6, tn7, tn8, tn9, tn10, tn11, tn12, zk_81, zl_81, bX12_order_66]
  rw [ex, b3]
  have s0 : ¬ 0 < A.S 5 x → A.S 5 x = 0 := fun q => by
    rcases (wQ x hx).1 with z | z | z
    · exact z
    · rw [z] at q; exact absurd (by decide) q
    · rw [z] at q; exact absurd (by decide) q
  have go : okO A (nI x) w d → bX12_order_68 K [some refR, some (.inl (nI x)), some (.inl w), some (.inl d)] [] (I1, L, P) := fun good => by
    unfold s_order at hK
    rw [if_pos good, ex] at hK
    have good5 := good.2.2.2.1
    rw [ex] at good5
    unfold bX12_order_68
    dsimp only [x_int, x_lng, x_ild, x_lld, x_ald, x_ist, x_ast, x_lst, x_inc, x_ii, x_id, x_i, x_ll, x_ld, x_l, x_cmp, x_i2l, x_l2i, x_if, x_ic, x_dup, x_pop, x_dup2, x_gI, x_gL, x_gR, x_g1, x_g0, x_gP, x_pI, x_pZ, x_pL, x_pP, x_al, x_as, x_all, x_asl, x_alr, x_len, x_cpy, x_m2, x_m1, x_m2l, x_m1l, x_call, x_cv, x_ri, x_rz, x_rl, x_rv, zg, zset, zbef, zlong, zcat, cond_true, cond_false, List.take, List.drop, rv1, rv2, rv3, rv4, rv5, rv6, rv7, sm0, sm1, bl0, bl1, bl2, bl3, bl4, bl5, bl6, bl7, bl8, List.nil_append, List.cons_append, List.length_cons, List.length_nil, Nat.reduceBEq, Nat.reduceAdd, Nat.reduceSub, ta, tb, tn0, tn1, tn2, tn3, tn4, tn5, tn6, tn7, tn8, tn9, tn10, tn11, tn12]
    refine p_remember hu hR1 (fun I2 f2 u2 sn => ?_)
    dsimp only [x_int, x_lng, x_ild, x_lld, x_ald, x_ist, x_ast, x_lst, x_inc, x_ii, x_id, x_i, x_ll, x_ld, x_l, x_cmp, x_i2l, x_l2i, x_if, x_ic, x_dup, x_pop, x_dup2, x_gI, x_gL, x_gR, x_g1, x_g0, x_gP, x_pI, x_pZ, x_pL, x_pP, x_al, x_as, x_all, x_asl, x_alr, x_len, x_cpy, x_m2, x_m1, x_m2l, x_m1l, x_call, x_cv, x_ri, x_rz, x_rl, x_rv, zg, zset, zbef, zlong, zcat, cond_true, cond_false, List.take, List.drop, rv1, rv2, rv3, rv4, rv5, rv6, rv7, sm0, sm1, bl0, bl1, bl2, bl3, bl4, bl5, bl6, bl7, bl8, List.nil_append, List.cons_append, List.length_cons, List.length_nil, Nat.reduceBEq, Nat.reduceAdd, Nat.reduceSub, ta, tb, tn0, tn1, tn2, tn3, tn4, tn5, tn6, tn7, tn8, tn9, tn10, tn11, tn12, zk_79, zl_79, zk_80, zl_80]
    try rw [ex]
    refine ⟨zx, zx, Or.inr rfl, ?_⟩
    obtain ⟨q1, q2⟩ := RR.mk1 (I3 := (zsI (zsI (I2, L, P) 79 0 x w) 80 0 x d).1) (S' := su (su A.S 3 x w) 4 x d) hR1 f2 u2 sn (fun a b c q => (zs_f (fun z => q ⟨z.1, by omega⟩)).trans (zs_f (fun z => q ⟨z.1, by omega⟩))) (fun y hy => by
      have := (hS.1 y hy).1
      rw [coldR_pln hp (by omega), show 6 * 0 + y = y by omega] at this
      rw [zs_r (by omega), zs_r (by omega), su_r (by omega), su_r (by omega)]; exact (f2.lo (by omega)).trans this) (fun y hy => by
      have := (hS.2.1 y hy).2
      rw [show 4 * 0 + y = y by omega] at this
      rw [zs_r (by omega), zs_r (by omega), su_r (by omega), su_r (by omega)]; exact (f2.lo (by omega)).trans this) (fun y hy => by
      obtain ⟨b1, b2, b3, b4, b5, -⟩ := hS.2.2.1 y hy
      rw [show 10 * 0 + y = y by omega] at b1 b2 b5
      have h7 : (zsI (zsI (I2, L, P) 79 0 x w) 80 0 x d).1 83 0 y = su (su A.S 3 x w) 4 x d 7 y := by
        rw [zs_r (by omega), zs_r (by omega), su_r (by omega), su_r (by omega)]; exact (f2.lo (by omega)).trans b5
      by_cases e : y = x
      · refine ⟨?_, ?_, h7⟩
        · rw [zs_r (by omega), zs_h ⟨rfl, e⟩, su_r (by omega), su_h ⟨rfl, e⟩]
        · rw [zs_h ⟨rfl, e⟩, su_h ⟨rfl, e⟩]
      · refine ⟨?_, ?_, h7⟩
        · rw [zs_r (by omega), zs_r (by omega), su_r (by omega), su_r (by omega)]; exact (f2.lo (by omega)).trans b1
        · rw [zs_r (by omega), zs_r (by omega), su_r (by omega), su_r (by omega)]; exact (f2.lo (by omega)).trans b2) (fun c hc => by rw [zs_r (by omega), zs_r (by omega)]; exact (congrArg zb (f2.lo (by omega))).mpr (hR1.2.2.2.1 c hc)) (fun f i q => (su_r (fun z => q (by omega))).trans (su_r (fun z => q (by omega)))) (fun y _ h5 => (su_r (fun z => h5 (by rw [z.2]; exact good5))).trans (su_r (by omega)))
    exact hK _ q1 (f1.Y.tr q2)
  refine ⟨fun z => absurd z (by decide), fun _ => ⟨zx, fun s => bad (fun z => by have := z.2.2.2.1; rw [ex] at this; rw [this] at s; exact absurd s (by decide)), fun s => p_isWoodR hT (fun ok2 => ?_) (fun no => ⟨fun _ => bad (fun z => no z.2.1), fun z => absurd rfl z⟩)⟩⟩
  dsimp only [x_int, x_lng, x_ild, x_lld, x_ald, x_ist, x_ast, x_lst, x_inc, x_ii, x_id, x_i, x_ll, x_ld, x_l, x_cmp, x_i2l, x_l2i, x_if, x_ic, x_dup, x_pop, x_dup2, x_gI, x_gL, x_gR, x_g1, x_g0, x_gP, x_pI, x_pZ, x_pL, x_pP, x_al, x_as, x_all, x_asl, x_alr, x_len, x_cpy, x_m2, x_m1, x_m2l, x_m1l, x_call, x_cv, x_ri, x_rz, x_rl, x_rv, zg, zset, zbef, zlong, zcat, cond_true, cond_false, List.take, List.drop, rv1, rv2, rv3, rv4, rv5, rv6, rv7, sm0, sm1, bl0, bl1, bl2, bl3, bl4, bl5, bl6, bl7, bl8, List.nil_append, List.cons_append, List.length_cons, List.length_nil, Nat.reduceBEq, Nat.reduceAdd, Nat.reduceSub, ta, tb, tn0, tn1, tn2, tn3, tn4, tn5, tn6, tn7, tn8, tn9, tn10, tn11, tn12, zk_86, zl_86, bX12_order_66]
  have a4 := hS.2.2.2.1
  rw [a4]
  refine ⟨fun z => absurd z (by decide), fun _ => ⟨by unfold zin; decide, p_isIn (fun ok3 => ?_) (fun no => ⟨fun _ => bad (fun z => no z.2.2.1), fun z => absurd rfl z⟩)⟩⟩
  dsimp only [x_int, x_lng, x_ild, x_lld, x_ald, x_ist, x_ast, x_lst, x_inc, x_ii, x_id, x_i, x_ll, x_ld, x_l, x_cmp, x_i2l, x_l2i, x_if, x_ic, x_dup, x_pop, x_dup2, x_gI, x_gL, x_gR, x_g1, x_g0, x_gP, x_pI, x_pZ, x_pL, x_pP, x_al, x_as, x_all, x_asl, x_alr, x_len, x_cpy, x_m2, x_m1, x_m2l, x_m1l, x_call, x_cv, x_ri, x_rz, x_rl, x_rv, zg, zset, zbef, zlong, zcat, cond_true, cond_false, List.take, List.drop, rv1, rv2, rv3, rv4, rv5, rv6, rv7, sm0, sm1, bl0, bl1, bl2, bl3, bl4, bl5, bl6, bl7, bl8, List.nil_append, List.cons_append, List.length_cons, List.length_nil, Nat.reduceBEq, Nat.reduceAdd, Nat.reduceSub, ta, tb, tn0, tn1, tn2, tn3, tn4, tn5, tn6, tn7, tn8, tn9, tn10, tn11, tn12, zk_79, zl_79, zk_80, zl_80, bX12_order_66]
  rw [b1, b2]
  refine ⟨fun z => absurd z (by decide), fun _ => ⟨zx, fun e1 => ⟨zx, fun e2 => bad (fun z => z.2.2.2.2 (by rw [ex]; exact ⟨e1, e2⟩)), fun e2 => go ⟨ok, ok2, ok3, by rw [ex]; exact s0 s, fun z => e2 (by rw [ex] at z; exact z.2)⟩⟩, fun e1 => go ⟨ok, ok2, ok3, by rw [ex]; exact s0 s, fun z => e1 (by rw [ex] at z; exact z.1)⟩⟩⟩
