theorem n01 {i : Nat} (h : i < 2) : nI i = 0 ∨ nI i = 1 := by
  have : i = 0 ∨ i = 1 := by omega
  rcases this with rfl | rfl
  · exact Or.inl rfl
  · exact Or.inr rfl
theorem n01s {i : Nat} (h : i < 2) : 1 - nI i = 0 ∨ 1 - nI i = 1 := by
  have : i = 0 ∨ i = 1 := by omega
  rcases this with rfl | rfl
  · exact Or.inr rfl
  · exact Or.inl rfl
theorem p_restAt {K : zQ} {I : zI} {L : zJ} {P : zP} {A : aA} {h w : Nat} {k : Int32} (wL : WL A.S) (hR : RR A I L) (hh : h < A.T.1 0) (hw : w < A.T.1 1) (hK : ∀ (I' : zI) (L' : zJ), frR I I' → zeLr L L' → K [.inl (match rsF (rsB (A.S 13 0) (rsFar A.T A.S h w)) k 4 with
    | some i => rsV (some i)
    | none => if 0 ≤ k then -2 else nI (zcount (rsB (A.S 13 0) (rsFar A.T A.S h w)) 4))] (I', L', P)) : mX12_restAt K [refR, .inl (nI h), .inl (nI w), .inl k] (I, L, P) := by
  have hT := hR.1
  have hS := hR.2.1
  have hp := hR.2.2.1
  have h6 := hT.h6
  show bX12_restAt_0 K [some (.inr (.inr (12,0))), some (.inl (nI h)), some (.inl (nI w)), some (.inl k), none, none, none, none, none] [] (I, L, P)
  unfold bX12_restAt_0
  dsimp only [x_int, x_lng, x_ild, x_lld, x_ald, x_ist, x_ast, x_lst, x_inc, x_ii, x_id, x_i, x_ll, x_ld, x_l, x_cmp, x_i2l, x_l2i, x_if, x_ic, x_dup, x_pop, x_dup2, x_gI, x_gL, x_gR, x_g1, x_g0, x_gP, x_pI, x_pZ, x_pL, x_pP, x_al, x_as, x_all, x_asl, x_alr, x_len, x_cpy, x_m2, x_m1, x_m2l, x_m1l, x_call, x_cv, x_ri, x_rz, x_rl, x_rv, zg, zset, zbef, zlong, zcat, cond_true, cond_false, List.take, List.drop, rv1, rv2, rv3, rv4, rv5, rv6, rv7, sm0, sm1, bl0, bl1, bl2, bl3, bl4, bl5, bl6, bl7, bl8, List.nil_append, List.cons_append, List.length_cons, List.length_nil, Nat.reduceBEq, Nat.reduceAdd, Nat.reduceSub, ta, tb, tn0, tn1, tn2, tn3, tn4, tn5, tn6, tn7, tn8, tn9, tn10, tn11, tn12]
  refine p_plainTried hp ?_
  dsimp only [x_int, x_lng, x_ild, x_lld, x_ald, x_ist, x_ast, x_lst, x_inc, x_ii, x_id, x_i, x_ll, x_ld, x_l, x_cmp, x_i2l, x_l2i, x_if, x_ic, x_dup, x_pop, x_dup2, x_gI, x_gL, x_gR, x_g1, x_g0, x_gP, x_pI, x_pZ, x_pL, x_pP, x_al, x_as, x_all, x_asl, x_alr, x_len, x_cpy, x_m2, x_m1, x_m2l, x_m1l, x_call, x_cv, x_ri, x_rz, x_rl, x_rv, zg, zset, zbef, zlong, zcat, cond_true, cond_false, List.take, List.drop, rv1, rv2, rv3, rv4, rv5, rv6, rv7, sm0, sm1, bl0, bl1, bl2, bl3, bl4, bl5, bl6, bl7, bl8, List.nil_append, List.cons_append, List.length_cons, List.length_nil, Nat.reduceBEq, Nat.reduceAdd, Nat.reduceSub, ta, tb, tn0, tn1, tn2, tn3, tn4, tn5, tn6, tn7, tn8, tn9, tn10, tn11, tn12]
  refine zinv 6 (fun i Z M => ∃ (I' : zI) (L' : zJ), Z = [some refR, some (.inl (nI h)), some (.inl (nI w)), some (.inl k), some (.inl (nI (zcount (fun k => decide (¬ shk A.T A.S h w k < 50)) i))), some (.inl (nI i)), none, none, none] ∧ M = (I', L', P) ∧ frE I I' ∧ zeLr L L') ?_ ?_ ⟨I, L, rfl, rfl, fun _ _ _ _ => rfl, zeLr.rf⟩
  · rintro i Z M hi ⟨I', L', rfl, rfl, hI, hL⟩ self hself
    have fR := frE_R hI
    dsimp only [x_int, x_lng, x_ild, x_lld, x_ald, x_ist, x_ast, x_lst, x_inc, x_ii, x_id, x_i, x_ll, x_ld, x_l, x_cmp, x_i2l, x_l2i, x_if, x_ic, x_dup, x_pop, x_dup2, x_gI, x_gL, x_gR, x_g1, x_g0, x_gP, x_pI, x_pZ, x_pL, x_pP, x_al, x_as, x_all, x_asl, x_alr, x_len, x_cpy, x_m2, x_m1, x_m2l, x_m1l, x_call, x_cv, x_ri, x_rz, x_rl, x_rv, zg, zset, zbef, zlong, zcat, cond_true, cond_false, List.take, List.drop, rv1, rv2, rv3, rv4, rv5, rv6, rv7, sm0, sm1, bl0, bl1, bl2, bl3, bl4, bl5, bl6, bl7, bl8, List.nil_append, List.cons_append, List.length_cons, List.length_nil, Nat.reduceBEq, Nat.reduceAdd, Nat.reduceSub, ta, tb, tn0, tn1, tn2, tn3, tn4, tn5, tn6, tn7, tn8, tn9, tn10, tn11, tn12]
    refine ⟨fun c => absurd c (lt_go (n := 6) rfl (by omega) hi), fun _ => p_isLonger (b := 0) (n := 0) (dr := false) (by decide) (frR_RT fR hT) (frR_RS fR hT hp hS) hh hw hi (Or.inl ⟨(frR_pln fR hp).1, rfl⟩) (fun z => absurd z (by decide)) (fun I2 L2 hI2 hL2 hd hn => ?_)⟩
    have hL3 : zeLr L L2 := fun a b c q1 q2 => by
      by_cases e : a = 12 ∧ b = 0 ∧ c = 61
      · rw [e.1, e.2.1, e.2.2]; exact (hd rfl).trans (hL _ _ _ (by decide) (by decide))
      · exact (hL2 a b c q1 q2 e).trans (hL a b c q1 q2)
    have ev : (dr1 false (shk A.T A.S h w i) 0).2 = if shk A.T A.S h w i < 50 then 0 else 1 := rfl
    have st : zcount (fun k => decide (¬ shk A.T A.S h w k < 50)) (i + 1) = zcount (fun k => decide (¬ shk A.T A.S h w k < 50)) i + (if decide (¬ shk A.T A.S h w i < 50) = true then 1 else 0) := rfl
    dsimp only [x_int, x_lng, x_ild, x_lld, x_ald, x_ist, x_ast, x_lst, x_inc, x_ii, x_id, x_i, x_ll, x_ld, x_l, x_cmp, x_i2l, x_l2i, x_if, x_ic, x_dup, x_pop, x_dup2, x_gI, x_gL, x_gR, x_g1, x_g0, x_gP, x_pI, x_pZ, x_pL, x_pP, x_al, x_as, x_all, x_asl, x_alr, x_len, x_cpy, x_m2, x_m1, x_m2l, x_m1l, x_call, x_cv, x_ri, x_rz, x_rl, x_rv, zg, zset, zbef, zlong, zcat, cond_true, cond_false, List.take, List.drop, rv1, rv2, rv3, rv4, rv5, rv6, rv7, sm0, sm1, bl0, bl1, bl2, bl3, bl4, bl5, bl6, bl7, bl8, List.nil_append, List.cons_append, List.length_cons, List.length_nil, Nat.reduceBEq, Nat.reduceAdd, Nat.reduceSub, ta, tb, tn0, tn1, tn2, tn3, tn4, tn5, tn6, tn7, tn8, tn9, tn10, tn11, tn12, bX12_restAt_36]
    rw [ev, n_succ i]
    by_cases q : shk A.T A.S h w i < 50
    · rw [if_pos q]
      refine ⟨fun _ => ?_, fun z => absurd rfl z⟩
      rw [Int32.add_zero]
      exact hself _ _ ⟨I2, L2, by rw [st, if_neg (by simp [q])]; rfl, rfl, hI.tr hI2, hL3⟩
    · rw [if_neg q]
      refine ⟨fun z => absurd z (by decide), fun _ => ?_⟩
      rw [n_succ]
      exact hself _ _ ⟨I2, L2, by rw [st, if_pos (by simp [q])], rfl, hI.tr hI2, hL3⟩
  · rintro Z M ⟨I', L', rfl, rfl, hI, hL⟩ self
    have hk := hK I' L' (frE_R hI) hL
    have lk : I' 54 0 0 = A.S 13 0 := by
      have := hS.2.2.2.2.1
      rw [likeR_pln hp] at this
      exact (hI 54 0 0 (by omega)).trans this
    obtain ⟨l, el, hl⟩ := n_nn wL.1
    have h30 : l ≤ 30 := by
      have := wL.2
      rw [el, show (30 : Int32) = nI 30 from rfl, n_le hl (by decide)] at this
      exact this
    unfold rsFar at hk
    generalize nI (zcount (fun k => decide (¬ shk A.T A.S h w k < 50)) 6) = far at *
    generalize A.S 13 0 = lk0 at *
    dsimp only [x_int, x_lng, x_ild, x_lld, x_ald, x_ist, x_ast, x_lst, x_inc, x_ii, x_id, x_i, x_ll, x_ld, x_l, x_cmp, x_i2l, x_l2i, x_if, x_ic, x_dup, x_pop, x_dup2, x_gI, x_gL, x_gR, x_g1, x_g0, x_gP, x_pI, x_pZ, x_pL, x_pP, x_al, x_as, x_all, x_asl, x_alr, x_len, x_cpy, x_m2, x_m1, x_m2l, x_m1l, x_call, x_cv, x_ri, x_rz, x_rl, x_rv, zg, zset, zbef, zlong, zcat, cond_true, cond_false, List.take, List.drop, rv1, rv2, rv3, rv4, rv5, rv6, rv7, sm0, sm1, bl0, bl1, bl2, bl3, bl4, bl5, bl6, bl7, bl8, List.nil_append, List.cons_append, List.length_cons, List.length_nil, Nat.reduceBEq, Nat.reduceAdd, Nat.reduceSub, ta, tb, tn0, tn1, tn2, tn3, tn4, tn5, tn6, tn7, tn8, tn9, tn10, tn11, tn12]
    refine ⟨fun _ => ?_, fun c => absurd c (lt_out (n := 6) rfl)⟩
    generalize eB : rsB lk0 far = B at hk
    refine zinv 4 (fun i Z M => ∃ z7 z8 : Option zV, Z = [some refR, some (.inl (nI h)), some (.inl (nI w)), some (.inl k), some (.inl far), some (.inl (nI (zcount B i))), some (.inl (nI i)), z7, z8] ∧ M = (I', L', P) ∧ rsF B k i = none) ?_ ?_ ⟨none, none, rfl, rfl, rfl⟩
    · rintro i Z M hi ⟨z7, z8, rfl, rfl, hno⟩ self hself
      have d2 : ∀ i, i < 4 → nI i / 2 = nI (i / 2) ∧ nI i - nI i / 2 * 2 = nI (i % 2) := by decide +kernel
      obtain ⟨q1, q2⟩ := d2 i hi
      have st : zcount B (i + 1) = zcount B i + (if B i = true then 1 else 0) := rfl
      have skip : ¬ B i = true → ∀ z7 z8 : Option zV, self [some refR, some (.inl (nI h)), some (.inl (nI w)), some (.inl k), some (.inl far), some (.inl (nI (zcount B i))), some (.inl (nI (i + 1))), z7, z8] [] (I', L', P) := fun z a b => hself _ _ ⟨a, b, by rw [st, if_neg z]; rfl, rfl, rsF_succ hno (fun q => z q.1)⟩
      dsimp only [x_int, x_lng, x_ild, x_lld, x_ald, x_ist, x_ast, x_lst, x_inc, x_ii, x_id, x_i, x_ll, x_ld, x_l, x_cmp, x_i2l, x_l2i, x_if, x_ic, x_dup, x_pop, x_dup2, x_gI, x_gL, x_gR, x_g1, x_g0, x_gP, x_pI, x_pZ, x_pL, x_pP, x_al, x_as, x_all, x_asl, x_alr, x_len, x_cpy, x_m2, x_m1, x_m2l, x_m1l, x_call, x_cv, x_ri, x_rz, x_rl, x_rv, zg, zset, zbef, zlong, zcat, cond_true, cond_false, List.take, List.drop, rv1, rv2, rv3, rv4, rv5, rv6, rv7, sm0, sm1, bl0, bl1, bl2, bl3, bl4, bl5, bl6, bl7, bl8, List.nil_append, List.cons_append, List.length_cons, List.length_nil, Nat.reduceBEq, Nat.reduceAdd, Nat.reduceSub, ta, tb, tn0, tn1, tn2, tn3, tn4, tn5, tn6, tn7, tn8, tn9, tn10, tn11, tn12]
      rw [q2, q1]
      refine ⟨fun c => absurd c (lt_go (n := 4) rfl (by omega) hi), fun _ => ⟨by decide, by decide, p_hasBy lk el h30 (n01s (by omega)) ?_⟩⟩
      dsimp only [x_int, x_lng, x_ild, x_lld, x_ald, x_ist, x_ast, x_lst, x_inc, x_ii, x_id, x_i, x_ll, x_ld, x_l, x_cmp, x_i2l, x_l2i, x_if, x_ic, x_dup, x_pop, x_dup2, x_gI, x_gL, x_gR, x_g1, x_g0, x_gP, x_pI, x_pZ, x_pL, x_pP, x_al, x_as, x_all, x_asl, x_alr, x_len, x_cpy, x_m2, x_m1, x_m2l, x_m1l, x_call, x_cv, x_ri, x_rz, x_rl, x_rv, zg, zset, zbef, zlong, zcat, cond_true, cond_false, List.take, List.drop, rv1, rv2, rv3, rv4, rv5, rv6, rv7, sm0, sm1, bl0, bl1, bl2, bl3, bl4, bl5, bl6, bl7, bl8, List.nil_append, List.cons_append, List.length_cons, List.length_nil, Nat.reduceBEq, Nat.reduceAdd, Nat.reduceSub, ta, tb, tn0, tn1, tn2, tn3, tn4, tn5, tn6, tn7, tn8, tn9, tn10, tn11, tn12]
      refine p_hasBy lk el h30 (n01 (by omega)) ?_
      dsimp only [x_int, x_lng, x_ild, x_lld, x_ald, x_ist, x_ast, x_lst, x_inc, x_ii, x_id, x_i, x_ll, x_ld, x_l, x_cmp, x_i2l, x_l2i, x_if, x_ic, x_dup, x_pop, x_dup2, x_gI, x_gL, x_gR, x_g1, x_g0, x_gP, x_pI, x_pZ, x_pL, x_pP, x_al, x_as, x_all, x_asl, x_alr, x_len, x_cpy, x_m2, x_m1, x_m2l, x_m1l, x_call, x_cv, x_ri, x_rz, x_rl, x_rv, zg, zset, zbef, zlong, zcat, cond_true, cond_false, List.take, List.drop, rv1, rv2, rv3, rv4, rv5, rv6, rv7, sm0, sm1, bl0, bl1, bl2, bl3, bl4, bl5, bl6, bl7, bl8, List.nil_append, List.cons_append, List.length_cons, List.length_nil, Nat.reduceBEq, Nat.reduceAdd, Nat.reduceSub, ta, tb, tn0, tn1, tn2, tn3, tn4, tn5, tn6, tn7, tn8, tn9, tn10, tn11, tn12, bX12_restAt_140]
      rw [n_succ i]
      refine ⟨fun c1 => skip (fun z => ?_) _ _, fun c1 => p_hasBy lk el h30 (n01s (by omega)) ?_⟩
      · rw [← eB] at z
        exact (of_decide_eq_true z).1 c1
      dsimp only [x_int, x_lng, x_ild, x_lld, x_ald, x_ist, x_ast, x_lst, x_inc, x_ii, x_id, x_i, x_ll, x_ld, x_l, x_cmp, x_i2l, x_l2i, x_if, x_ic, x_dup, x_pop, x_dup2, x_gI, x_gL, x_gR, x_g1, x_g0, x_gP, x_pI, x_pZ, x_pL, x_pP, x_al, x_as, x_all, x_asl, x_alr, x_len, x_cpy, x_m2, x_m1, x_m2l, x_m1l, x_call, x_cv, x_ri, x_rz, x_rl, x_rv, zg, zset, zbef, zlong, zcat, cond_true, cond_false, List.take, List.drop, rv1, rv2, rv3, rv4, rv5, rv6, rv7, sm0, sm1, bl0, bl1, bl2, bl3, bl4, bl5, bl6, bl7, bl8, List.nil_append, List.cons_append, List.length_cons, List.length_nil, Nat.reduceBEq, Nat.reduceAdd, Nat.reduceSub, ta, tb, tn0, tn1, tn2, tn3, tn4, tn5, tn6, tn7, tn8, tn9, tn10, tn11, tn12]
      refine p_hasBy lk el h30 (n01 (by omega)) ?_
      dsimp only [x_int, x_lng, x_ild, x_lld, x_ald, x_ist, x_ast, x_lst, x_inc, x_ii, x_id, x_i, x_ll, x_ld, x_l, x_cmp, x_i2l, x_l2i, x_if, x_ic, x_dup, x_pop, x_dup2, x_gI, x_gL, x_gR, x_g1, x_g0, x_gP, x_pI, x_pZ, x_pL, x_pP, x_al, x_as, x_all, x_asl, x_alr, x_len, x_cpy, x_m2, x_m1, x_m2l, x_m1l, x_call, x_cv, x_ri, x_rz, x_rl, x_rv, zg, zset, zbef, zlong, zcat, cond_true, cond_false, List.take, List.drop, rv1, rv2, rv3, rv4, rv5, rv6, rv7, sm0, sm1, bl0, bl1, bl2, bl3, bl4, bl5, bl6, bl7, bl8, List.nil_append, List.cons_append, List.length_cons, List.length_nil, Nat.reduceBEq, Nat.reduceAdd, Nat.reduceSub, ta, tb, tn0, tn1, tn2, tn3, tn4, tn5, tn6, tn7, tn8, tn9, tn10, tn11, tn12, bX12_restAt_140]
      try rw [n_succ i]
      try rw [n_succ]
      refine ⟨fun c2 => ?_, fun c2 => skip (fun z => ?_) _ _⟩
      · have z : B i = true := by rw [← eB]; exact decide_eq_true ⟨c1, Int32.not_lt.mpr c2⟩
        refine ⟨fun d => ?_, fun d => hself _ _ ⟨_, _, by rw [st, if_pos z], rfl, rsF_succ hno (fun q => d q.2)⟩⟩
        rw [rsF_some 4 hno ⟨z, d⟩ hi] at hk
        exact hk
      · rw [← eB] at z
        exact c2 (Int32.not_lt.mp (of_decide_eq_true z).2)
    · rintro Z M ⟨z7, z8, rfl, rfl, hno⟩ self
      rw [hno] at hk
      dsimp only [x_int, x_lng, x_ild, x_lld, x_ald, x_ist, x_ast, x_lst, x_inc, x_ii, x_id, x_i, x_ll, x_ld, x_l, x_cmp, x_i2l, x_l2i, x_if, x_ic, x_dup, x_pop, x_dup2, x_gI, x_gL, x_gR, x_g1, x_g0, x_gP, x_pI, x_pZ, x_pL, x_pP, x_al, x_as, x_all, x_asl, x_alr, x_len, x_cpy, x_m2, x_m1, x_m2l, x_m1l, x_call, x_cv, x_ri, x_rz, x_rl, x_rv, zg, zset, zbef, zlong, zcat, cond_true, cond_false, List.take, List.drop, rv1, rv2, rv3, rv4, rv5, rv6, rv7, sm0, sm1, bl0, bl1, bl2, bl3, bl4, bl5, bl6, bl7, bl8, List.nil_append, List.cons_append, List.length_cons, List.length_nil, Nat.reduceBEq, Nat.reduceAdd, Nat.reduceSub, ta, tb, tn0, tn1, tn2, tn3, tn4, tn5, tn6, tn7, tn8, tn9, tn10, tn11, tn12, bX12_restAt_157]
      refine ⟨fun _ => ⟨fun c => ?_, fun c => ?_⟩, fun c => absurd c (lt_out (n := 4) rfl)⟩
      · rw [if_pos c] at hk; exact hk
      · rw [if_neg c] at hk; exact hk
theorem rsF_none {B : Nat → Bool} {w : Int32} (hw : ¬ 0 ≤ w) : ∀ n, n < 2147483648 → rsF B w n = none := by
  intro n
  induction n with
  | zero => intro _; rfl
  | succ n ih =>
    intro h
    refine rsF_succ (ih (by omega)) (fun q => hw ?_)
    rw [← q.2, show (0 : Int32) = nI 0 from rfl, n_le (by omega) (by have := zcount_le B n; omega)]
    omega
theorem r_rests {K : zQ} {I : zI} {L : zJ} {P : zP} {A : aA} {h w : Int32} (wL : WL A.S) (hR : RR A I L) (hK : ∀ (I' : zI) (L' : zJ), frR I I' → zeLr L L' → K [.inl (v_rests A h w)] (I', L', P)) : mX12_rests K [refR, .inl h, .inl w] (I, L, P) := by
  unfold v_rests at hK
  show bX12_rests_0 K [some (.inr (.inr (12,0))), some (.inl h), some (.inl w)] [] (I, L, P)
  unfold bX12_rests_0
  obtain ⟨I1, e9, hR1, f1⟩ := r_thr P hR
  dsimp only [x_ald, x_int, x_pI, zg, Nat.reduceBEq, cond_true]
  rw [e9]
  have hT := hR1.1
  have h6 := hT.h6
  have w4 := hT.w4
  dsimp only [x_int, x_lng, x_ild, x_lld, x_ald, x_ist, x_ast, x_lst, x_inc, x_ii, x_id, x_i, x_ll, x_ld, x_l, x_cmp, x_i2l, x_l2i, x_if, x_ic, x_dup, x_pop, x_dup2, x_gI, x_gL, x_gR, x_g1, x_g0, x_gP, x_pI, x_pZ, x_pL, x_pP, x_al, x_as, x_all, x_asl, x_alr, x_len, x_cpy, x_m2, x_m1, x_m2l, x_m1l, x_call, x_cv, x_ri, x_rz, x_rl, x_rv, zg, zset, zbef, zlong, zcat, cond_true, cond_false, List.take, List.drop, rv1, rv2, rv3, rv4, rv5, rv6, rv7, sm0, sm1, bl0, bl1, bl2, bl3, bl4, bl5, bl6, bl7, bl8, List.nil_append, List.cons_append, List.length_cons, List.length_nil, Nat.reduceBEq, Nat.reduceAdd, Nat.reduceSub, ta, tb, tn0, tn1, tn2, tn3, tn4, tn5, tn6, tn7, tn8, tn9, tn10, tn11, tn12, bX12_rests_31, bX12_rests_32]
  refine p_isHandR hT (fun ok => ?_) (fun no => ⟨fun _ => by have hk := hK I1 L f1 zeLr.rf; rw [if_neg no] at hk; exact hk, fun z => absurd rfl z⟩)
  dsimp only [x_int, x_lng, x_ild, x_lld, x_ald, x_ist, x_ast, x_lst, x_inc, x_ii, x_id, x_i, x_ll, x_ld, x_l, x_cmp, x_i2l, x_l2i, x_if, x_ic, x_dup, x_pop, x_dup2, x_gI, x_gL, x_gR, x_g1, x_g0, x_gP, x_pI, x_pZ, x_pL, x_pP, x_al, x_as, x_all, x_asl, x_alr, x_len, x_cpy, x_m2, x_m1, x_m2l, x_m1l, x_call, x_cv, x_ri, x_rz, x_rl, x_rv, zg, zset, zbef, zlong, zcat, cond_true, cond_false, List.take, List.drop, rv1, rv2, rv3, rv4, rv5, rv6, rv7, sm0, sm1, bl0, bl1, bl2, bl3, bl4, bl5, bl6, bl7, bl8, List.nil_append, List.cons_append, List.length_cons, List.length_nil, Nat.reduceBEq, Nat.reduceAdd, Nat.reduceSub, ta, tb, tn0, tn1, tn2, tn3, tn4, tn5, tn6, tn7, tn8, tn9, tn10, tn11, tn12, bX12_rests_31, bX12_rests_32]
  rw [if_pos ok] at hK
  refine ⟨fun z => absurd z (by decide), fun _ => p_isWoodR hT (fun ok2 => ?_) (fun no => ⟨fun _ => by have hk := hK I1 L f1 zeLr.rf; rw [if_neg no] at hk; exact hk, fun z => absurd rfl z⟩)⟩
  rw [if_pos ok2] at hK
  obtain ⟨x, rfl, hx⟩ := ok_of (by omega) ok
  obtain ⟨y, rfl, hy⟩ := ok_of (by omega) ok2
  rw [n_cl (n := x) (by omega), n_cl (n := y) (by omega)] at hK
  dsimp only [x_int, x_lng, x_ild, x_lld, x_ald, x_ist, x_ast, x_lst, x_inc, x_ii, x_id, x_i, x_ll, x_ld, x_l, x_cmp, x_i2l, x_l2i, x_if, x_ic, x_dup, x_pop, x_dup2, x_gI, x_gL, x_gR, x_g1, x_g0, x_gP, x_pI, x_pZ, x_pL, x_pP, x_al, x_as, x_all, x_asl, x_alr, x_len, x_cpy, x_m2, x_m1, x_m2l, x_m1l, x_call, x_cv, x_ri, x_rz, x_rl, x_rv, zg, zset, zbef, zlong, zcat, cond_true, cond_false, List.take, List.drop, rv1, rv2, rv3, rv4, rv5, rv6, rv7, sm0, sm1, bl0, bl1, bl2, bl3, bl4, bl5, bl6, bl7, bl8, List.nil_append, List.cons_append, List.length_cons, List.length_nil, Nat.reduceBEq, Nat.reduceAdd, Nat.reduceSub, ta, tb, tn0, tn1, tn2, tn3, tn4, tn5, tn6, tn7, tn8, tn9, tn10, tn11, tn12]
  refine ⟨fun z => absurd z (by decide), fun _ => p_restAt wL hR1 hx hy (fun I2 L2 f2 l2 => ?_)⟩
  dsimp only [x_int, x_lng, x_ild, x_lld, x_ald, x_ist, x_ast, x_lst, x_inc, x_ii, x_id, x_i, x_ll, x_ld, x_l, x_cmp, x_i2l, x_l2i, x_if, x_ic, x_dup, x_pop, x_dup2, x_gI, x_gL, x_gR, x_g1, x_g0, x_gP, x_pI, x_pZ, x_pL, x_pP, x_al, x_as, x_all, x_asl, x_alr, x_len, x_cpy, x_m2, x_m1, x_m2l, x_m1l, x_call, x_cv, x_ri, x_rz, x_rl, x_rv, zg, zset, zbef, zlong, zcat, cond_true, cond_false, List.take, List.drop, rv1, rv2, rv3, rv4, rv5, rv6, rv7, sm0, sm1, bl0, bl1, bl2, bl3, bl4, bl5, bl6, bl7, bl8, List.nil_append, List.cons_append, List.length_cons, List.length_nil, Nat.reduceBEq, Nat.reduceAdd, Nat.reduceSub, ta, tb, tn0, tn1, tn2, tn3, tn4, tn5, tn6, tn7, tn8, tn9, tn10, tn11, tn12, bX12_rests_32]
  rw [rsF_none (by decide) 4 (by decide)]
  exact hK I2 L2 (f1.tr f2) l2
theorem r_rest {K : zQ} {I : zI} {L : zJ} {P : zP} {A : aA} {h w k : Int32} (wL : WL A.S) (hR : RR A I L) (hK : ∀ (I' : zI) (L' : zJ), frR I I' → zeLr L L' → K [.inl (v_rest A h w k)] (I', L', P)) : mX12_rest K [refR, .inl h, .inl w, .inl k] (I, L, P) := by
  unfold v_rest at hK
  show bX12_rest_0 K [some (.inr (.inr (12,0))), some (.inl h), some (.inl w), some (.inl k)] [] (I, L, P)
  unfold bX12_rest_0
  obtain ⟨I1, e9, hR1, f1⟩ := r_thr P hR
  dsimp only [x_ald, x_int, x_pI, zg, Nat.reduceBEq, cond_true]
  rw [e9]
  have hT := hR1.1
  have h6 := hT.h6
  have w4 := hT.w4
  dsimp only [x_int, x_lng, x_ild, x_lld, x_ald, x_ist, x_ast, x_lst, x_inc, x_ii, x_id, x_i, x_ll, x_ld, x_l, x_cmp, x_i2l, x_l2i, x_if, x_ic, x_dup, x_pop, x_dup2, x_gI, x_gL, x_gR, x_g1, x_g0, x_gP, x_pI, x_pZ, x_pL, x_pP, x_al, x_as, x_all, x_asl, x_alr, x_len, x_cpy, x_m2, x_m1, x_m2l, x_m1l, x_call, x_cv, x_ri, x_rz, x_rl, x_rv, zg, zset, zbef, zlong, zcat, cond_true, cond_false, List.take, List.drop, rv1, rv2, rv3, rv4, rv5, rv6, rv7, sm0, sm1, bl0, bl1, bl2, bl3, bl4, bl5, bl6, bl7, bl8, List.nil_append, List.cons_append, List.length_cons, List.length_nil, Nat.reduceBEq, Nat.reduceAdd, Nat.reduceSub, ta, tb, tn0, tn1, tn2, tn3, tn4, tn5, tn6, tn7, tn8, tn9, tn10, tn11, tn12, bX12_rest_35, bX12_rest_36]
  refine p_isHandR hT (fun ok => ?_) (fun no => ⟨fun _ => by have hk := hK I1 L f1 zeLr.rf; rw [if_neg no] at hk; exact hk, fun z => absurd rfl z⟩)
  dsimp only [x_int, x_lng, x_ild, x_lld, x_ald, x_ist, x_ast, x_lst, x_inc, x_ii, x_id, x_i, x_ll, x_ld, x_l, x_cmp, x_i2l, x_l2i, x_if, x_ic, x_dup, x_pop, x_dup2, x_gI, x_gL, x_gR, x_g1, x_g0, x_gP, x_pI, x_pZ, x_pL, x_pP, x_al, x_as, x_all, x_asl, x_alr, x_len, x_cpy, x_m2, x_m1, x_m2l, x_m1l, x_call, x_cv, x_ri, x_rz, x_rl, x_rv, zg, zset, zbef, zlong, zcat, cond_true, cond_false, List.take, List.drop, rv1, rv2, rv3, rv4, rv5, rv6, rv7, sm0, sm1, bl0, bl1, bl2, bl3, bl4, bl5, bl6, bl7, bl8, List.nil_append, List.cons_append, List.length_cons, List.length_nil, Nat.reduceBEq, Nat.reduceAdd, Nat.reduceSub, ta, tb, tn0, tn1, tn2, tn3, tn4, tn5, tn6, tn7, tn8, tn9, tn10, tn11, tn12, bX12_rest_35, bX12_rest_36]
  rw [if_pos ok] at hK
  refine ⟨fun z => absurd z (by decide), fun _ => p_isWoodR hT (fun ok2 => ?_) (fun no => ⟨fun _ => by have hk := hK I1 L f1 zeLr.rf; rw [if_neg no] at hk; exact hk, fun z => absurd rfl z⟩)⟩
  rw [if_pos ok2] at hK
  obtain ⟨x, rfl, hx⟩ := ok_of (by omega) ok
  obtain ⟨y, rfl, hy⟩ := ok_of (by omega) ok2
  rw [n_cl (n := x) (by omega), n_cl (n := y) (by omega)] at hK
  dsimp only [x_int, x_lng, x_ild, x_lld, x_ald, x_ist, x_ast, x_lst, x_inc, x_ii, x_id, x_i, x_ll, x_ld, x_l, x_cmp, x_i2l, x_l2i, x_if, x_ic, x_dup, x_pop, x_dup2, x_gI, x_gL, x_gR, x_g1, x_g0, x_gP, x_pI, x_pZ, x_pL, x_pP, x_al, x_as, x_all, x_asl, x_alr, x_len, x_cpy, x_m2, x_m1, x_m2l, x_m1l, x_call, x_cv, x_ri, x_rz, x_rl, x_rv, zg, zset, zbef, zlong, zcat, cond_true, cond_false, List.take, List.drop, rv1, rv2, rv3, rv4, rv5, rv6, rv7, sm0, sm1, bl0, bl1, bl2, bl3, bl4, bl5, bl6, bl7, bl8, List.nil_append, List.cons_append, List.length_cons, List.length_nil, Nat.reduceBEq, Nat.reduceAdd, Nat.reduceSub, ta, tb, tn0, tn1, tn2, tn3, tn4, tn5, tn6, tn7, tn8, tn9, tn10, tn11, tn12, bX12_rest_35, bX12_rest_36]
  refine ⟨fun z => absurd z (by decide), fun _ => ⟨fun c => ?_, fun c => p_restAt wL hR1 hx hy (fun I2 L2 f2 l2 => ?_)⟩⟩
  · have hk := hK I1 L f1 zeLr.rf
    rw [if_neg (fun q => Int32.not_lt.mpr q c)] at hk; exact hk
  · dsimp only [x_int, x_lng, x_ild, x_lld, x_ald, x_ist, x_ast, x_lst, x_inc, x_ii, x_id, x_i, x_ll, x_ld, x_l, x_cmp, x_i2l, x_l2i, x_if, x_ic, x_dup, x_pop, x_dup2, x_gI, x_gL, x_gR, x_g1, x_g0, x_gP, x_pI, x_pZ, x_pL, x_pP, x_al, x_as, x_all, x_asl, x_alr, x_len, x_cpy, x_m2, x_m1, x_m2l, x_m1l, x_call, x_cv, x_ri, x_rz, x_rl, x_rv, zg, zset, zbef, zlong, zcat, cond_true, cond_false, List.take, List.drop, rv1, rv2, rv3, rv4, rv5, rv6, rv7, sm0, sm1, bl0, bl1, bl2, bl3, bl4, bl5, bl6, bl7, bl8, List.nil_append, List.cons_append, List.length_cons, List.length_nil, Nat.reduceBEq, Nat.reduceAdd, Nat.reduceSub, ta, tb, tn0, tn1, tn2, tn3, tn4, tn5, tn6, tn7, tn8, tn9, tn10, tn11, tn12, bX12_rest_36]
    have hk := hK I2 L2 (f1.tr f2) l2
    rw [if_pos (Int32.not_lt.mp c)] at hk
    cases e : rsF (rsB (A.S 13 0) (rsFar A.T A.S x y)) k 4 with
    | none =>
      rw [e] at hk
      dsimp only
      rw [if_pos (Int32.not_lt.mp c)]; exact hk
    | some i => rw [e] at hk; exact hk
