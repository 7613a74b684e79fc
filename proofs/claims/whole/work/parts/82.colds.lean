-- how cold a hand was, by what was heard
theorem bsB_and2 {p q : Nat → Bool} {n : Nat} (hn : n ≤ 10) : nI (bsB p n) &&& nI (bsB q n) = nI (bsB (fun r => p r && q r) n) := by
  have hb : ∀ (f : Nat → Bool) (i : Nat), i < 32 → (nI (bsB f n)).toBitVec.getLsbD i = (decide (i < n) && f i) := fun f i hi => by
    show (BitVec.ofNat 32 (bsB f n)).getLsbD i = _
    rw [BitVec.getLsbD_ofNat, bsB_bit]
    simp [hi]
  apply Int32.toBitVec_inj.mp
  rw [Int32.toBitVec_and]
  apply BitVec.eq_of_getLsbD_eq
  intro i hi
  rw [BitVec.getLsbD_and, hb p i hi, hb q i hi, hb _ i hi]
  by_cases h : i < n <;> simp [h]
def dv (m k : Nat) : Int32 := if k < m then nI (m - 1 - k) else -1
theorem dv_s {m k : Nat} (h : k < m) : dv m k + -1 = dv m (k + 1) := by
  unfold dv
  rw [if_pos h]
  by_cases e : k + 1 < m
  · rw [if_pos e, show m - 1 - k = (m - 1 - (k + 1)) + 1 by omega, ← n_succ, Int32.add_assoc, show (1 : Int32) + -1 = 0 by decide, Int32.add_zero]
  · rw [if_neg e, show m - 1 - k = 0 by omega]; rfl
theorem dv_0 {m : Nat} : nI m - 1 = dv m 0 := by
  unfold dv
  by_cases e : 0 < m
  · rw [if_pos e, show (1 : Int32) = nI 1 from rfl, pk_sub (by omega)]; rfl
  · rw [if_neg e, show m = 0 by omega]; rfl
def stk (O : aH) (m : Nat) : Nat → Nat → Bool
  | 0 => fun _ => false
  | k + 1 => match O.2 (m - 1 - k) with
    | .inl j => if stk O m k (m - 1 - k) = true then stk O m k else fun x => x == j || stk O m k x
    | .inr _ => stk O m k
theorem stk_l {O : aH} {m k j : Nat} (h : O.2 (m - 1 - k) = .inl j) : stk O m (k + 1) = if stk O m k (m - 1 - k) = true then stk O m k else fun x => x == j || stk O m k x := by
  show (match O.2 (m - 1 - k) with
    | .inl j => if stk O m k (m - 1 - k) = true then stk O m k else fun x => x == j || stk O m k x
    | .inr _ => stk O m k) = _
  rw [h]
theorem stk_r {O : aH} {m k : Nat} {v : Nat × Nat × Bool} (h : O.2 (m - 1 - k) = .inr v) : stk O m (k + 1) = stk O m k := by
  show (match O.2 (m - 1 - k) with
    | .inl j => if stk O m k (m - 1 - k) = true then stk O m k else fun x => x == j || stk O m k x
    | .inr _ => stk O m k) = _
  rw [h]
theorem RCo.m {A : aA} {I : zI} (h : RCo A.T A.O A.lm I) : ∃ m, kwn A = nI m ∧ m ≤ A.O.1 ∧ A.O.1 ≤ 24 := by
  obtain ⟨h1, h2, h3, h4, h5⟩ := h
  unfold kwn
  rcases h4 with e | ⟨m, hm, e⟩
  · rw [e, if_neg (by decide)]
    exact ⟨A.O.1, rfl, Nat.le_refl _, h2⟩
  · rw [e, if_pos (by rw [show (0 : Int32) = nI 0 from rfl, n_le (by omega) (by omega)]; omega)]
    exact ⟨m, rfl, hm, h2⟩
abbrev ovR : zV := .inr (.inr (3, 0))
def bI (b : Bool) : Int32 := if b = true then 1 else 0
theorem RCo.q {T : aT} {O : aH} {lm : Int32} {I I' : zI} (h : RCo T O lm I) (e : ∀ a c, a = 3 ∨ a = 18 ∨ a = 19 ∨ a = 20 ∨ a = 21 → I' a 0 c = I a 0 c) : RCo T O lm I' := by
  obtain ⟨g1, g2, g3, g4, g5⟩ := h
  refine ⟨(e 3 _ (by omega)).trans g1, g2, (e 3 _ (by omega)).trans g3, g4, fun i hi => ?_⟩
  have := g5 i hi
  rw [e 18 i (by omega), e 19 i (by omega), e 20 i (by omega), e 21 i (by omega)]
  exact this
theorem p_sift {K : zQ} {I : zI} {L : zJ} {P : zP} {A : aA} {m : Nat} (hO : RCo A.T A.O A.lm I) (hm : kwn A = nI m) (hm2 : m ≤ A.O.1) (hK : ∀ I' : zI, fr1 22 I I' → (∀ i, i < A.O.1 → I' 22 0 i = bI (stk A.O m m i)) → K [] (I', L, P)) : mX3_sift K [ovR] (I, L, P) := by
  have h24 := hO.2.1
  show bX3_sift_2 K [some ovR, some (.inl 0)] [] (I, L, P)
  refine zinv A.O.1 (fun n Z M => ∃ I' : zI, Z = [some ovR, some (.inl (nI n))] ∧ M = (I', L, P) ∧ fr1 22 I I' ∧ ∀ i, i < n → I' 22 0 i = 0) ?_ ?_ ⟨I, rfl, rfl, fun _ _ _ _ => rfl, fun i hi => by omega⟩
  · rintro n Z M hn ⟨I', rfl, rfl, q1, q2⟩ self hself
    have hO' := hO.q (I' := I') (fun a c q => q1 a 0 c (by omega))
    dsimp only [x_int, x_lng, x_ild, x_lld, x_ald, x_ist, x_ast, x_lst, x_inc, x_ii, x_id, x_i, x_ll, x_ld, x_l, x_cmp, x_i2l, x_l2i, x_if, x_ic, x_dup, x_pop, x_dup2, x_gI, x_gL, x_gR, x_g1, x_g0, x_gP, x_pI, x_pZ, x_pL, x_pP, x_al, x_as, x_all, x_asl, x_alr, x_len, x_cpy, x_m2, x_m1, x_m2l, x_m1l, x_call, x_cv, x_ri, x_rz, x_rl, x_rv, zg, zset, zbef, zlong, zcat, cond_true, cond_false, List.take, List.drop, rv1, rv2, rv3, rv4, rv5, rv6, rv7, sm0, sm1, bl0, bl1, bl2, bl3, bl4, bl5, bl6, bl7, bl8, List.nil_append, List.cons_append, List.length_cons, List.length_nil, Nat.reduceBEq, Nat.reduceAdd, Nat.reduceSub, ta, tb, tn0, tn1, tn2, tn3, tn4, tn5, tn6, tn7, tn8, tn9, tn10, tn11, tn12, zk_22, zl_22]
    rw [n_cl (n := n) (by omega), n_succ n, nar0]
    obtain ⟨J1, g1, x1, k1⟩ := zsI_ex I' L P 22 0 n 0
    rw [g1]
    refine ⟨fun q => absurd q (lt_go hO'.1 (by omega) hn), fun _ => ⟨n_zin (by omega) (by decide), hself _ _ ⟨J1, rfl, rfl, fun a b c q => (k1 a b c (fun e => q ⟨e.1, e.2.1⟩)).trans (q1 a b c q), fun i hi => ?_⟩⟩⟩
    by_cases e : i = n
    · subst e; exact x1
    · rw [k1 _ _ _ (by omega)]; exact q2 i (by omega)
  · rintro Z M ⟨I1, rfl, rfl, q1, q2⟩ self
    have hO1 := hO.q (I' := I1) (fun a c q => q1 a 0 c (by omega))
    dsimp only [x_int, x_lng, x_ild, x_lld, x_ald, x_ist, x_ast, x_lst, x_inc, x_ii, x_id, x_i, x_ll, x_ld, x_l, x_cmp, x_i2l, x_l2i, x_if, x_ic, x_dup, x_pop, x_dup2, x_gI, x_gL, x_gR, x_g1, x_g0, x_gP, x_pI, x_pZ, x_pL, x_pP, x_al, x_as, x_all, x_asl, x_alr, x_len, x_cpy, x_m2, x_m1, x_m2l, x_m1l, x_call, x_cv, x_ri, x_rz, x_rl, x_rv, zg, zset, zbef, zlong, zcat, cond_true, cond_false, List.take, List.drop, rv1, rv2, rv3, rv4, rv5, rv6, rv7, sm0, sm1, bl0, bl1, bl2, bl3, bl4, bl5, bl6, bl7, bl8, List.nil_append, List.cons_append, List.length_cons, List.length_nil, Nat.reduceBEq, Nat.reduceAdd, Nat.reduceSub, ta, tb, tn0, tn1, tn2, tn3, tn4, tn5, tn6, tn7, tn8, tn9, tn10, tn11, tn12]
    refine ⟨fun _ => p_manyKnown (A := A) hO1 ?_, fun q => absurd q (lt_out hO1.1)⟩
    dsimp only [x_int, x_lng, x_ild, x_lld, x_ald, x_ist, x_ast, x_lst, x_inc, x_ii, x_id, x_i, x_ll, x_ld, x_l, x_cmp, x_i2l, x_l2i, x_if, x_ic, x_dup, x_pop, x_dup2, x_gI, x_gL, x_gR, x_g1, x_g0, x_gP, x_pI, x_pZ, x_pL, x_pP, x_al, x_as, x_all, x_asl, x_alr, x_len, x_cpy, x_m2, x_m1, x_m2l, x_m1l, x_call, x_cv, x_ri, x_rz, x_rl, x_rv, zg, zset, zbef, zlong, zcat, cond_true, cond_false, List.take, List.drop, rv1, rv2, rv3, rv4, rv5, rv6, rv7, sm0, sm1, bl0, bl1, bl2, bl3, bl4, bl5, bl6, bl7, bl8, List.nil_append, List.cons_append, List.length_cons, List.length_nil, Nat.reduceBEq, Nat.reduceAdd, Nat.reduceSub, ta, tb, tn0, tn1, tn2, tn3, tn4, tn5, tn6, tn7, tn8, tn9, tn10, tn11, tn12]
    rw [hm, dv_0]
    refine zinv m (fun k Z M => ∃ I' : zI, Z = [some ovR, some (.inl (dv m k))] ∧ M = (I', L, P) ∧ fr1 22 I I' ∧ ∀ i, i < A.O.1 → I' 22 0 i = bI (stk A.O m k i)) ?_ ?_ ⟨I1, rfl, rfl, q1, fun i hi => q2 i hi⟩
    · rintro k Z M hk ⟨I', rfl, rfl, r1, r2⟩ self2 hself
      have hO' := hO.q (I' := I') (fun a c q => r1 a 0 c (by omega))
      have ei : dv m k = nI (m - 1 - k) := if_pos hk
      have z : zin (nI (m - 1 - k)) 24 := n_zin (by omega) (by decide)
      have h5 := hO'.2.2.2.2 (m - 1 - k) (by omega)
      dsimp only [x_int, x_lng, x_ild, x_lld, x_ald, x_ist, x_ast, x_lst, x_inc, x_ii, x_id, x_i, x_ll, x_ld, x_l, x_cmp, x_i2l, x_l2i, x_if, x_ic, x_dup, x_pop, x_dup2, x_gI, x_gL, x_gR, x_g1, x_g0, x_gP, x_pI, x_pZ, x_pL, x_pP, x_al, x_as, x_all, x_asl, x_alr, x_len, x_cpy, x_m2, x_m1, x_m2l, x_m1l, x_call, x_cv, x_ri, x_rz, x_rl, x_rv, zg, zset, zbef, zlong, zcat, cond_true, cond_false, List.take, List.drop, rv1, rv2, rv3, rv4, rv5, rv6, rv7, sm0, sm1, bl0, bl1, bl2, bl3, bl4, bl5, bl6, bl7, bl8, List.nil_append, List.cons_append, List.length_cons, List.length_nil, Nat.reduceBEq, Nat.reduceAdd, Nat.reduceSub, ta, tb, tn0, tn1, tn2, tn3, tn4, tn5, tn6, tn7, tn8, tn9, tn10, tn11, tn12, zk_21, zl_21, zk_22, zl_22, bX3_sift_65]
      rw [dv_s hk, ei, n_cl (n := m - 1 - k) (by omega), nar1, r2 (m - 1 - k) (by omega)]
      refine ⟨fun q => ?_, fun _ => ⟨z, fun c => ?_, fun c => ⟨z, fun d => ⟨z, ?_⟩, fun d => ?_⟩⟩⟩
      · have q : nI (m - 1 - k) < nI 0 := q
        rw [n_lt (by omega) (by omega)] at q
        omega
      · cases e : A.O.2 (m - 1 - k) with
        | inl j =>
          rw [e] at h5
          rw [h5.2] at c
          exact absurd c (n_ne1 (by omega))
        | inr v => exact hself _ _ ⟨I', rfl, rfl, r1, by rw [stk_r e]; exact r2⟩
      · cases e : A.O.2 (m - 1 - k) with
        | inr v =>
          rw [e] at h5
          exact absurd h5.2.2.2.2.2 c
        | inl j =>
          rw [e] at h5
          have s := stk_l e
          have nd : stk A.O m k (m - 1 - k) = false := by
            cases w : stk A.O m k (m - 1 - k) with
            | false => rfl
            | true => rw [w] at d; exact absurd d (by decide)
          rw [if_neg (by rw [nd]; decide)] at s
          rw [h5.2, n_cl (n := j) (by omega)]
          obtain ⟨J1, g1, x1, k1⟩ := zsI_ex I' L P 22 0 j 1
          rw [g1]
          refine ⟨n_zin (by omega) (by decide), hself _ _ ⟨J1, rfl, rfl, fun a b c q => (k1 a b c (fun e => q ⟨e.1, e.2.1⟩)).trans (r1 a b c q), fun i hi => ?_⟩⟩
          rw [s]
          by_cases y : i = j
          · subst y; rw [x1]; simp [bI]
          · rw [k1 _ _ _ (fun e => y e.2.2), r2 i hi]
            show _ = bI (i == j || stk A.O m k i)
            rw [show (i == j) = false by simp [y], Bool.false_or]
      · cases e : A.O.2 (m - 1 - k) with
        | inr v =>
          rw [e] at h5
          exact absurd h5.2.2.2.2.2 c
        | inl j =>
          have s := stk_l e
          have yd : stk A.O m k (m - 1 - k) = true := by
            cases w : stk A.O m k (m - 1 - k) with
            | true => rfl
            | false => rw [w] at d; exact absurd rfl d
          rw [if_pos yd] at s
          exact hself _ _ ⟨I', rfl, rfl, r1, by rw [s]; exact r2⟩
    · rintro Z M ⟨I', rfl, rfl, r1, r2⟩ self2
      have e : dv m m = -1 := if_neg (by omega)
      rw [e]
      dsimp only [x_int, x_lng, x_ild, x_lld, x_ald, x_ist, x_ast, x_lst, x_inc, x_ii, x_id, x_i, x_ll, x_ld, x_l, x_cmp, x_i2l, x_l2i, x_if, x_ic, x_dup, x_pop, x_dup2, x_gI, x_gL, x_gR, x_g1, x_g0, x_gP, x_pI, x_pZ, x_pL, x_pP, x_al, x_as, x_all, x_asl, x_alr, x_len, x_cpy, x_m2, x_m1, x_m2l, x_m1l, x_call, x_cv, x_ri, x_rz, x_rl, x_rv, zg, zset, zbef, zlong, zcat, cond_true, cond_false, List.take, List.drop, rv1, rv2, rv3, rv4, rv5, rv6, rv7, sm0, sm1, bl0, bl1, bl2, bl3, bl4, bl5, bl6, bl7, bl8, List.nil_append, List.cons_append, List.length_cons, List.length_nil, Nat.reduceBEq, Nat.reduceAdd, Nat.reduceSub, ta, tb, tn0, tn1, tn2, tn3, tn4, tn5, tn6, tn7, tn8, tn9, tn10, tn11, tn12]
      exact ⟨fun _ => hK I' r1 r2, fun q => absurd (show (-1 : Int32) < 0 by decide) q⟩
theorem p_counts {K : zQ} {I : zI} {L : zJ} {P : zP} {i : Nat} (hi : i < 24) (hK : K [.inl (if I 21 0 i = -1 then (if I 22 0 i = 0 then 1 else 0) else 0)] (I, L, P)) : mX3_counts K [ovR, .inl (nI i)] (I, L, P) := by
  show bX3_counts_0 K [some (.inr (.inr (3,0))), some (.inl (nI i))] [] (I, L, P)
  unfold bX3_counts_0
  have z : zin (nI i) 24 := n_zin hi (by decide)
  dsimp only [x_int, x_lng, x_ild, x_lld, x_ald, x_ist, x_ast, x_lst, x_inc, x_ii, x_id, x_i, x_ll, x_ld, x_l, x_cmp, x_i2l, x_l2i, x_if, x_ic, x_dup, x_pop, x_dup2, x_gI, x_gL, x_gR, x_g1, x_g0, x_gP, x_pI, x_pZ, x_pL, x_pP, x_al, x_as, x_all, x_asl, x_alr, x_len, x_cpy, x_m2, x_m1, x_m2l, x_m1l, x_call, x_cv, x_ri, x_rz, x_rl, x_rv, zg, zset, zbef, zlong, zcat, cond_true, cond_false, List.take, List.drop, rv1, rv2, rv3, rv4, rv5, rv6, rv7, sm0, sm1, bl0, bl1, bl2, bl3, bl4, bl5, bl6, bl7, bl8, List.nil_append, List.cons_append, List.length_cons, List.length_nil, Nat.reduceBEq, Nat.reduceAdd, Nat.reduceSub, ta, tb, tn0, tn1, tn2, tn3, tn4, tn5, tn6, tn7, tn8, tn9, tn10, tn11, tn12, zk_21, zl_21, zk_22, zl_22, bX3_counts_24, bX3_counts_23]
  rw [n_cl (n := i) (by omega)]
  refine ⟨z, fun c => ⟨z, fun d => ⟨Or.inr rfl, ?_⟩, fun d => ⟨Or.inl rfl, ?_⟩⟩, fun c => ⟨Or.inl rfl, ?_⟩⟩
  · rw [if_pos c, if_pos d] at hK; exact hK
  · rw [if_pos c, if_neg d] at hK; exact hK
  · rw [if_neg c] at hK; exact hK
theorem p_rapsAhead {K : zQ} {I : zI} {L : zJ} {P : zP} {T : aT} {t r : Nat} (wT : WT T) (wD : WD T) (hT : CT I t T) (hr : r < T.1 2) (hK : K [.inl (nI (ahd T r))] (I, L, P)) : mX9_rapsAhead K [.inr (.inr (9, t)), .inl (nI r)] (I, L, P) := by
  have h6 := hT.h6
  have r10 := hT.r10
  obtain ⟨hr6, ehr⟩ := wT.h h6 hr
  obtain ⟨dr9, edr⟩ := wD.d hr
  show bX9_rapsAhead_4 K [some (.inr (.inr (9, t))), some (.inl (nI r)), some (.inl 0), some (.inl 0), none] [] (I, L, P)
  refine zinv (T.1 2) (fun i Z M => ∃ z4 : Option zV, Z = [some (.inr (.inr (9, t))), some (.inl (nI r)), some (.inl (nI (zcount (ahp T (hnd T r) (dyr T r) r) i))), some (.inl (nI i)), z4] ∧ M = (I, L, P)) ?_ ?_ ⟨none, rfl, rfl⟩
  · rintro i Z M hi ⟨z4, rfl, rfl⟩ self hself
    obtain ⟨hi6, ehi⟩ := wT.h h6 hi
    obtain ⟨di9, edi⟩ := wD.d hi
    have zi : zin (nI i) 10 := n_zin (by omega) (by decide)
    have zr : zin (nI r) 10 := n_zin (by omega) (by decide)
    have no : ¬ (hnd T i = hnd T r ∧ hap T (dyr T r) r i) → ∀ z4 : Option zV, self [some (.inr (.inr (9, t))), some (.inl (nI r)), some (.inl (nI (zcount (ahp T (hnd T r) (dyr T r) r) i))), some (.inl (nI (i + 1))), z4] [] (I, L, P) := fun q z4 => by
      have := zc_no (p := ahp T (hnd T r) (dyr T r) r) (i := i) (decide_eq_false q)
      rw [Int32.add_zero] at this
      rw [this]
      exact hself _ _ ⟨z4, rfl, rfl⟩
    have yes : hap T (dyr T r) r i → bX9_rapsAhead_64 K self [some (.inr (.inr (9, t))), some (.inl (nI r)), some (.inl (nI (zcount (ahp T (hnd T r) (dyr T r) r) i))), some (.inl (nI i)), z4] [.inl 1] (I, L, P) := fun q => by
      dsimp only [x_int, x_lng, x_ild, x_lld, x_ald, x_ist, x_ast, x_lst, x_inc, x_ii, x_id, x_i, x_ll, x_ld, x_l, x_cmp, x_i2l, x_l2i, x_if, x_ic, x_dup, x_pop, x_dup2, x_gI, x_gL, x_gR, x_g1, x_g0, x_gP, x_pI, x_pZ, x_pL, x_pP, x_al, x_as, x_all, x_asl, x_alr, x_len, x_cpy, x_m2, x_m1, x_m2l, x_m1l, x_call, x_cv, x_ri, x_rz, x_rl, x_rv, zg, zset, zbef, zlong, zcat, cond_true, cond_false, List.take, List.drop, rv1, rv2, rv3, rv4, rv5, rv6, rv7, sm0, sm1, bl0, bl1, bl2, bl3, bl4, bl5, bl6, bl7, bl8, List.nil_append, List.cons_append, List.length_cons, List.length_nil, Nat.reduceBEq, Nat.reduceAdd, Nat.reduceSub, ta, tb, tn0, tn1, tn2, tn3, tn4, tn5, tn6, tn7, tn8, tn9, tn10, tn11, tn12, zl_45, bX9_rapsAhead_64, bX9_rapsAhead_95]
      rw [n_cl (n := i) (by omega), n_cl (n := r) (by omega), n_succ i, (hT.rap hi).1, (hT.rap hr).1]
      refine ⟨fun z => absurd z (by decide), fun _ => ⟨zi, zr, fun e => ?_, fun e => no (fun z => e ?_) _⟩⟩
      · rw [ehi, ehr, n_eq (by omega) (by omega)] at e
        rw [zc_yes (p := ahp T (hnd T r) (dyr T r) r) (i := i) (decide_eq_true ⟨e, q⟩)]
        exact hself _ _ ⟨_, rfl, rfl⟩
      · rw [ehi, ehr, z.1]
    have nay : ¬ hap T (dyr T r) r i → bX9_rapsAhead_64 K self [some (.inr (.inr (9, t))), some (.inl (nI r)), some (.inl (nI (zcount (ahp T (hnd T r) (dyr T r) r) i))), some (.inl (nI i)), z4] [.inl 0] (I, L, P) := fun q => by
      dsimp only [x_int, x_lng, x_ild, x_lld, x_ald, x_ist, x_ast, x_lst, x_inc, x_ii, x_id, x_i, x_ll, x_ld, x_l, x_cmp, x_i2l, x_l2i, x_if, x_ic, x_dup, x_pop, x_dup2, x_gI, x_gL, x_gR, x_g1, x_g0, x_gP, x_pI, x_pZ, x_pL, x_pP, x_al, x_as, x_all, x_asl, x_alr, x_len, x_cpy, x_m2, x_m1, x_m2l, x_m1l, x_call, x_cv, x_ri, x_rz, x_rl, x_rv, zg, zset, zbef, zlong, zcat, cond_true, cond_false, List.take, List.drop, rv1, rv2, rv3, rv4, rv5, rv6, rv7, sm0, sm1, bl0, bl1, bl2, bl3, bl4, bl5, bl6, bl7, bl8, List.nil_append, List.cons_append, List.length_cons, List.length_nil, Nat.reduceBEq, Nat.reduceAdd, Nat.reduceSub, ta, tb, tn0, tn1, tn2, tn3, tn4, tn5, tn6, tn7, tn8, tn9, tn10, tn11, tn12, zl_45, bX9_rapsAhead_64, bX9_rapsAhead_95]
      rw [n_succ i]
      exact ⟨fun _ => no (fun z => q z.2) _, fun z => absurd rfl z⟩
    dsimp only [x_int, x_lng, x_ild, x_lld, x_ald, x_ist, x_ast, x_lst, x_inc, x_ii, x_id, x_i, x_ll, x_ld, x_l, x_cmp, x_i2l, x_l2i, x_if, x_ic, x_dup, x_pop, x_dup2, x_gI, x_gL, x_gR, x_g1, x_g0, x_gP, x_pI, x_pZ, x_pL, x_pP, x_al, x_as, x_all, x_asl, x_alr, x_len, x_cpy, x_m2, x_m1, x_m2l, x_m1l, x_call, x_cv, x_ri, x_rz, x_rl, x_rv, zg, zset, zbef, zlong, zcat, cond_true, cond_false, List.take, List.drop, rv1, rv2, rv3, rv4, rv5, rv6, rv7, sm0, sm1, bl0, bl1, bl2, bl3, bl4, bl5, bl6, bl7, bl8, List.nil_append, List.cons_append, List.length_cons, List.length_nil, Nat.reduceBEq, Nat.reduceAdd, Nat.reduceSub, ta, tb, tn0, tn1, tn2, tn3, tn4, tn5, tn6, tn7, tn8, tn9, tn10, tn11, tn12, zl_45, bX9_rapsAhead_59, bX9_rapsAhead_63]
    rw [n_cl (n := i) (by omega), n_cl (n := r) (by omega), (hT.rap hi).2.2, (hT.rap hr).2.2, edi, edr]
    refine ⟨fun q => absurd q (lt_go hT.2.1.2.2 (by omega) hi), fun _ => ⟨zi, zr, fun q => yes (Or.inl ?_), fun q => ⟨zi, zr, fun e => ⟨fun d => nay ?_, fun d => yes (Or.inr ⟨?_, ?_⟩)⟩, fun e => nay ?_⟩⟩⟩
    · have q : nI (dyr T i) < nI (dyr T r) := q
      rw [n_lt (by omega) (by omega)] at q
      exact q
    · have q : ¬ nI (dyr T i) < nI (dyr T r) := q
      have d : nI r ≤ nI i := d
      rw [n_lt (by omega) (by omega)] at q
      rw [n_le (by omega) (by omega)] at d
      unfold hap; omega
    · have e : nI (dyr T i) = nI (dyr T r) := e
      rw [n_eq (by omega) (by omega)] at e
      exact e
    · have d : ¬ nI r ≤ nI i := d
      rw [n_le (by omega) (by omega)] at d
      omega
    · have q : ¬ nI (dyr T i) < nI (dyr T r) := q
      have e : ¬ nI (dyr T i) = nI (dyr T r) := e
      rw [n_lt (by omega) (by omega)] at q
      rw [n_eq (by omega) (by omega)] at e
      unfold hap; omega
  · rintro Z M ⟨z4, rfl, rfl⟩ self
    dsimp only [x_int, x_lng, x_ild, x_lld, x_ald, x_ist, x_ast, x_lst, x_inc, x_ii, x_id, x_i, x_ll, x_ld, x_l, x_cmp, x_i2l, x_l2i, x_if, x_ic, x_dup, x_pop, x_dup2, x_gI, x_gL, x_gR, x_g1, x_g0, x_gP, x_pI, x_pZ, x_pL, x_pP, x_al, x_as, x_all, x_asl, x_alr, x_len, x_cpy, x_m2, x_m1, x_m2l, x_m1l, x_call, x_cv, x_ri, x_rz, x_rl, x_rv, zg, zset, zbef, zlong, zcat, cond_true, cond_false, List.take, List.drop, rv1, rv2, rv3, rv4, rv5, rv6, rv7, sm0, sm1, bl0, bl1, bl2, bl3, bl4, bl5, bl6, bl7, bl8, List.nil_append, List.cons_append, List.length_cons, List.length_nil, Nat.reduceBEq, Nat.reduceAdd, Nat.reduceSub, ta, tb, tn0, tn1, tn2, tn3, tn4, tn5, tn6, tn7, tn8, tn9, tn10, tn11, tn12]
    exact ⟨fun _ => hK, fun q => absurd q (lt_out hT.2.1.2.2)⟩
def shc (T : aT) (h r k : Nat) (c : Int32) : Int32 := shk T (stt T (su (sc0 T) 0 h c) r) h (wod (sc0 T) r) k
def sol (T : aT) (h r k c : Nat) : Bool := !decide (shc T h r k (nI c) < 50)
def tsc (T : aT) (h : Nat) (d n c : Int32) : aS := su (su (su (sc0 T) 9 0 d) 1 h n) 0 h c
theorem tsc_shk {T : aT} {h r k : Nat} {c : Int32} (e : hnd T r = h) : shk T (tsc T h (nI (dyr T r)) (nI (ahd T r)) c) h (wod (sc0 T) r) k = shc T h r k c := by
  subst e
  unfold shc
  refine shk_cg ?_ ?_ ?_ ?_ ?_
  · unfold tsc stt
    rw [su_h ⟨rfl, rfl⟩, su_r (by omega), su_r (by omega), su_h ⟨rfl, rfl⟩]
  · unfold tsc stt
    rw [su_r (by omega), su_r (by omega), su_r (by omega), su_r (by omega), su_r (by omega), su_r (by omega)]
  · unfold tsc stt
    rw [su_r (by omega), su_r (by omega), su_r (by omega), su_r (by omega), su_r (by omega), su_r (by omega)]
  · unfold tsc stt
    rw [su_r (by omega), su_h ⟨rfl, rfl⟩, su_h ⟨rfl, rfl⟩]
  · unfold tsc stt
    rw [su_r (by omega), su_r (by omega), su_h ⟨rfl, rfl⟩, su_r (by omega), su_h ⟨rfl, rfl⟩]
theorem CS.set0 {I I' : zI} {j : Nat} {T : aT} {S S' : aS} {h : Nat} {d n c : Int32} (hS : CS I j T S) (hs : ∀ f i, ¬ (f = 0 ∧ i = h) → ¬ (f = 1 ∧ i = h) → ¬ (f = 9 ∧ i = 0) → S' f i = S f i) (h0 : S' 0 h = c) (h1 : S' 1 h = n) (h9 : S' 9 0 = d) (e : ∀ a q, csK a q = true → ¬ (a = 31 ∧ q = h) → ¬ (a = 33 ∧ q = h) → ¬ (a = 8 ∧ q = 13) → I' a j q = I a j q) (v0 : I' 31 j h = c) (v1 : I' 33 j h = n) (v9 : I' 8 j 13 = d) : CS I' j T S' := by
  obtain ⟨a1, a2, a3, a4, a5, a6, a7, a8⟩ := hS
  have g8 : S' 8 = S 8 := by funext i; exact hs 8 i (by omega) (by omega) (by omega)
  have g7 : S' 7 = S 7 := by funext i; exact hs 7 i (by omega) (by omega) (by omega)
  refine ⟨fun y hy => ?_, fun y hy => ?_, fun y hy => ?_, ?_, ?_, ?_, ?_, ?_⟩
  · obtain ⟨b1, b2, b3⟩ := a1 y hy
    rw [e 32 y rfl (by omega) (by omega) (by omega), hs 11 y (by omega) (by omega) (by omega)]
    by_cases z : y = h
    · subst z; exact ⟨v0.trans h0.symm, v1.trans h1.symm, b3⟩
    · rw [e 31 y rfl (by omega) (by omega) (by omega), e 33 y rfl (by omega) (by omega) (by omega), hs 0 y (by omega) (by omega) (by omega), hs 1 y (by omega) (by omega) (by omega)]
      exact ⟨b1, b2, b3⟩
  · rw [e 34 y rfl (by omega) (by omega) (by omega), e 35 y rfl (by omega) (by omega) (by omega), hs 12 y (by omega) (by omega) (by omega), hs 2 y (by omega) (by omega) (by omega)]; exact a2 y hy
  · rw [e 36 y rfl (by omega) (by omega) (by omega), e 37 y rfl (by omega) (by omega) (by omega), e 38 y rfl (by omega) (by omega) (by omega), e 39 y rfl (by omega) (by omega) (by omega), e 40 y rfl (by omega) (by omega) (by omega), hs 3 y (by omega) (by omega) (by omega), hs 4 y (by omega) (by omega) (by omega), hs 5 y (by omega) (by omega) (by omega), hs 6 y (by omega) (by omega) (by omega), g8]; exact a3 y hy
  · exact v9.trans h9.symm
  · rw [e 8 _ rfl (by omega) (by omega) (by omega), hs 10 0 (by omega) (by omega) (by omega)]; exact a5
  · rw [e 8 _ rfl (by omega) (by omega) (by omega), hs 13 0 (by omega) (by omega) (by omega)]; exact a6
  · rw [e 8 _ rfl (by omega) (by omega) (by omega), hs 14 0 (by omega) (by omega) (by omega)]; exact a7
  · rw [e 8 _ rfl (by omega) (by omega) (by omega), g7]; exact a8
