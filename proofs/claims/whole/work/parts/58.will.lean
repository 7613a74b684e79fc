theorem bsB_andn {p q : Nat → Bool} {n : Nat} (hn : n ≤ 10) : nI (bsB p n) &&& (nI (bsB q n) ^^^ -1) = nI (bsB (fun r => p r && !q r) n) := by
  have hb : ∀ (f : Nat → Bool) (i : Nat), i < 32 → (nI (bsB f n)).toBitVec.getLsbD i = (decide (i < n) && f i) := fun f i hi => by
    show (BitVec.ofNat 32 (bsB f n)).getLsbD i = _
    rw [BitVec.getLsbD_ofNat, bsB_bit]
    simp [hi]
  apply Int32.toBitVec_inj.mp
  rw [Int32.toBitVec_and, Int32.toBitVec_xor]
  apply BitVec.eq_of_getLsbD_eq
  intro i hi
  rw [BitVec.getLsbD_and, BitVec.getLsbD_xor, hb p i hi, hb q i hi, hb _ i hi]
  have : (-1 : Int32).toBitVec.getLsbD i = true := by
    show (BitVec.allOnes 32).getLsbD i = true
    rw [BitVec.getLsbD_allOnes]
    simp [hi]
  rw [this]
  by_cases h : i < n <;> simp [h]
def v_fading (A : aA) (n : Int32) : Int32 := if okI n 0 99 then nI (bsB (fun r => decide (aNx A n 7 r = 1 ∧ ¬ A.S 7 r = 1)) (A.T.1 2)) else -1
theorem c_fading {K : zQ} {I : zI} {L : zJ} {P : zP} {A : aA} {n : Int32} (wT : WT A.T) (wS : WS A.T A.S) (hC : RC A I P) (hK : ∀ (I' : zI) (L' : zJ) (P' : zP), frQ I I' → zeL2 L L' → frP P P' → K [.inl (v_fading A n)] (I', L', P')) : mX11_fading K [kbR, .inl n] (I, L, P) := by
  unfold v_fading aNx at hK
  show bX11_fading_0 K [some (.inr (.inr (11,0))), some (.inl n)] [] (I, L, P)
  unfold bX11_fading_0
  dsimp only [x_int, x_lng, x_ild, x_lld, x_ald, x_ist, x_ast, x_lst, x_inc, x_ii, x_id, x_i, x_ll, x_ld, x_l, x_cmp, x_i2l, x_l2i, x_if, x_ic, x_dup, x_pop, x_dup2, x_gI, x_gL, x_gR, x_g1, x_g0, x_gP, x_pI, x_pZ, x_pL, x_pP, x_al, x_as, x_all, x_asl, x_alr, x_len, x_cpy, x_m2, x_m1, x_m2l, x_m1l, x_call, x_cv, x_ri, x_rz, x_rl, x_rv, zg, zset, zbef, zlong, zcat, cond_true, cond_false, List.take, List.drop, rv1, rv2, rv3, rv4, rv5, rv6, rv7, sm0, sm1, bl0, bl1, bl2, bl3, bl4, bl5, bl6, bl7, bl8, List.nil_append, List.cons_append, List.length_cons, List.length_nil, Nat.reduceBEq, Nat.reduceAdd, Nat.reduceSub, ta, tb, tn0, tn1, tn2, tn3, tn4, tn5, tn6, tn7, tn8, tn9, tn10, tn11, tn12]
  refine p_isSpan (fun ok => ?_) (fun no => ?_)
  · obtain ⟨m, rfl, hm⟩ := span_of ok
    simp only [if_pos ok, n_cl (show m < 2147483648 by omega)] at hK
    dsimp only [x_int, x_lng, x_ild, x_lld, x_ald, x_ist, x_ast, x_lst, x_inc, x_ii, x_id, x_i, x_ll, x_ld, x_l, x_cmp, x_i2l, x_l2i, x_if, x_ic, x_dup, x_pop, x_dup2, x_gI, x_gL, x_gR, x_g1, x_g0, x_gP, x_pI, x_pZ, x_pL, x_pP, x_al, x_as, x_all, x_asl, x_alr, x_len, x_cpy, x_m2, x_m1, x_m2l, x_m1l, x_call, x_cv, x_ri, x_rz, x_rl, x_rv, zg, zset, zbef, zlong, zcat, cond_true, cond_false, List.take, List.drop, rv1, rv2, rv3, rv4, rv5, rv6, rv7, sm0, sm1, bl0, bl1, bl2, bl3, bl4, bl5, bl6, bl7, bl8, List.nil_append, List.cons_append, List.length_cons, List.length_nil, Nat.reduceBEq, Nat.reduceAdd, Nat.reduceSub, ta, tb, tn0, tn1, tn2, tn3, tn4, tn5, tn6, tn7, tn8, tn9, tn10, tn11, tn12]
    refine ⟨fun z => absurd z (by decide), fun _ => p_trial hC (fun t I1 P1 q1 q2 hT h11 h82 h80 hS2 hS0 => ?_)⟩
    dsimp only [x_int, x_lng, x_ild, x_lld, x_ald, x_ist, x_ast, x_lst, x_inc, x_ii, x_id, x_i, x_ll, x_ld, x_l, x_cmp, x_i2l, x_l2i, x_if, x_ic, x_dup, x_pop, x_dup2, x_gI, x_gL, x_gR, x_g1, x_g0, x_gP, x_pI, x_pZ, x_pL, x_pP, x_al, x_as, x_all, x_asl, x_alr, x_len, x_cpy, x_m2, x_m1, x_m2l, x_m1l, x_call, x_cv, x_ri, x_rz, x_rl, x_rv, zg, zset, zbef, zlong, zcat, cond_true, cond_false, List.take, List.drop, rv1, rv2, rv3, rv4, rv5, rv6, rv7, sm0, sm1, bl0, bl1, bl2, bl3, bl4, bl5, bl6, bl7, bl8, List.nil_append, List.cons_append, List.length_cons, List.length_nil, Nat.reduceBEq, Nat.reduceAdd, Nat.reduceSub, ta, tb, tn0, tn1, tn2, tn3, tn4, tn5, tn6, tn7, tn8, tn9, tn10, tn11, tn12]
    refine p_pass (fd := true) (dr := false) (n := m) (by omega) (Or.inl ⟨rfl, rfl⟩) (Or.inr ⟨by decide, rfl⟩) h82 hT hS2 wT wS (fun I2 L2 hL2 hI2 hS3 => ?_)
    have q3 := frS_Q hI2
    have hS4 := q3.CS (by decide) hS0
    dsimp only [x_int, x_lng, x_ild, x_lld, x_ald, x_ist, x_ast, x_lst, x_inc, x_ii, x_id, x_i, x_ll, x_ld, x_l, x_cmp, x_i2l, x_l2i, x_if, x_ic, x_dup, x_pop, x_dup2, x_gI, x_gL, x_gR, x_g1, x_g0, x_gP, x_pI, x_pZ, x_pL, x_pP, x_al, x_as, x_all, x_asl, x_alr, x_len, x_cpy, x_m2, x_m1, x_m2l, x_m1l, x_call, x_cv, x_ri, x_rz, x_rl, x_rv, zg, zset, zbef, zlong, zcat, cond_true, cond_false, List.take, List.drop, rv1, rv2, rv3, rv4, rv5, rv6, rv7, sm0, sm1, bl0, bl1, bl2, bl3, bl4, bl5, bl6, bl7, bl8, List.nil_append, List.cons_append, List.length_cons, List.length_nil, Nat.reduceBEq, Nat.reduceAdd, Nat.reduceSub, ta, tb, tn0, tn1, tn2, tn3, tn4, tn5, tn6, tn7, tn8, tn9, tn10, tn11, tn12]
    rw [hS3.2.2.2.2.2.2.2, hS4.2.2.2.2.2.2.2, bsB_sum, bsB_sum, bsB_andn hT.r10]
    have hk := hK I2 L2 P1 (q1.tr q3) hL2 q2
    rw [bsB_congr (q := fun r => decide (aPass A.T false true m A.S 7 r = 1) && !decide (A.S 7 r = 1)) (fun i _ => by
      by_cases h1 : aPass A.T false true m A.S 7 i = 1 <;> by_cases h2 : A.S 7 i = 1 <;> simp [h1, h2])] at hk
    exact hk
  · have hk := hK I L P frQ.rf zeL2.rf frP.rf
    rw [if_neg no] at hk
    exact ⟨fun _ => hk, fun z => absurd rfl z⟩
theorem r_fading {K : zQ} {I : zI} {L : zJ} {P : zP} {A : aA} {n : Int32} (wT : WT A.T) (wS : WS A.T A.S) (wQ : WQ A.T A.S) (wL : WL A.S) (hR : RR A I L) (hK : ∀ (I' : zI) (L' : zJ), frR I I' → zeLr L L' → K [.inl (v_fading A n)] (I', L', P)) : mX12_fading K [refR, .inl n] (I, L, P) := by
  unfold v_fading aNx at hK
  show bX12_fading_0 K [some (.inr (.inr (12,0))), some (.inl n), none, none] [] (I, L, P)
  unfold bX12_fading_0
  obtain ⟨I1, e9, hR1, f1⟩ := r_thr P hR
  dsimp only [x_ald, x_int, x_pI, zg, Nat.reduceBEq, cond_true]
  rw [e9]
  dsimp only [x_int, x_lng, x_ild, x_lld, x_ald, x_ist, x_ast, x_lst, x_inc, x_ii, x_id, x_i, x_ll, x_ld, x_l, x_cmp, x_i2l, x_l2i, x_if, x_ic, x_dup, x_pop, x_dup2, x_gI, x_gL, x_gR, x_g1, x_g0, x_gP, x_pI, x_pZ, x_pL, x_pP, x_al, x_as, x_all, x_asl, x_alr, x_len, x_cpy, x_m2, x_m1, x_m2l, x_m1l, x_call, x_cv, x_ri, x_rz, x_rl, x_rv, zg, zset, zbef, zlong, zcat, cond_true, cond_false, List.take, List.drop, rv1, rv2, rv3, rv4, rv5, rv6, rv7, sm0, sm1, bl0, bl1, bl2, bl3, bl4, bl5, bl6, bl7, bl8, List.nil_append, List.cons_append, List.length_cons, List.length_nil, Nat.reduceBEq, Nat.reduceAdd, Nat.reduceSub, ta, tb, tn0, tn1, tn2, tn3, tn4, tn5, tn6, tn7, tn8, tn9, tn10, tn11, tn12]
  refine p_isIn (fun ok => ?_) (fun no => ?_)
  · obtain ⟨m, rfl, hm⟩ := span_of ok
    simp only [if_pos ok, n_cl (show m < 2147483648 by omega)] at hK
    dsimp only [x_int, x_lng, x_ild, x_lld, x_ald, x_ist, x_ast, x_lst, x_inc, x_ii, x_id, x_i, x_ll, x_ld, x_l, x_cmp, x_i2l, x_l2i, x_if, x_ic, x_dup, x_pop, x_dup2, x_gI, x_gL, x_gR, x_g1, x_g0, x_gP, x_pI, x_pZ, x_pL, x_pP, x_al, x_as, x_all, x_asl, x_alr, x_len, x_cpy, x_m2, x_m1, x_m2l, x_m1l, x_call, x_cv, x_ri, x_rz, x_rl, x_rv, zg, zset, zbef, zlong, zcat, cond_true, cond_false, List.take, List.drop, rv1, rv2, rv3, rv4, rv5, rv6, rv7, sm0, sm1, bl0, bl1, bl2, bl3, bl4, bl5, bl6, bl7, bl8, List.nil_append, List.cons_append, List.length_cons, List.length_nil, Nat.reduceBEq, Nat.reduceAdd, Nat.reduceSub, ta, tb, tn0, tn1, tn2, tn3, tn4, tn5, tn6, tn7, tn8, tn9, tn10, tn11, tn12]
    refine ⟨fun z => absurd z (by decide), fun _ => p_layR hR1 (fun I9 f9 hR9 hS9 => ?_)⟩
    dsimp only [x_int, x_lng, x_ild, x_lld, x_ald, x_ist, x_ast, x_lst, x_inc, x_ii, x_id, x_i, x_ll, x_ld, x_l, x_cmp, x_i2l, x_l2i, x_if, x_ic, x_dup, x_pop, x_dup2, x_gI, x_gL, x_gR, x_g1, x_g0, x_gP, x_pI, x_pZ, x_pL, x_pP, x_al, x_as, x_all, x_asl, x_alr, x_len, x_cpy, x_m2, x_m1, x_m2l, x_m1l, x_call, x_cv, x_ri, x_rz, x_rl, x_rv, zg, zset, zbef, zlong, zcat, cond_true, cond_false, List.take, List.drop, rv1, rv2, rv3, rv4, rv5, rv6, rv7, sm0, sm1, bl0, bl1, bl2, bl3, bl4, bl5, bl6, bl7, bl8, List.nil_append, List.cons_append, List.length_cons, List.length_nil, Nat.reduceBEq, Nat.reduceAdd, Nat.reduceSub, ta, tb, tn0, tn1, tn2, tn3, tn4, tn5, tn6, tn7, tn8, tn9, tn10, tn11, tn12]
    refine p_goR hm wT wS wQ wL hR9 hS9 (fun I2 L2 f2 hL2 hT hS1 hS0 => ?_)
    have hk := hK I2 L2 ((f1.tr f9).tr f2) hL2
    have wQ1 : WQ A.T (aPass A.T false true m A.S) := wQ.pass _ _ _
    have r10 := hT.r10
    generalize aPass A.T false true m A.S = S1 at *
    dsimp only [x_int, x_lng, x_ild, x_lld, x_ald, x_ist, x_ast, x_lst, x_inc, x_ii, x_id, x_i, x_ll, x_ld, x_l, x_cmp, x_i2l, x_l2i, x_if, x_ic, x_dup, x_pop, x_dup2, x_gI, x_gL, x_gR, x_g1, x_g0, x_gP, x_pI, x_pZ, x_pL, x_pP, x_al, x_as, x_all, x_asl, x_alr, x_len, x_cpy, x_m2, x_m1, x_m2l, x_m1l, x_call, x_cv, x_ri, x_rz, x_rl, x_rv, zg, zset, zbef, zlong, zcat, cond_true, cond_false, List.take, List.drop, rv1, rv2, rv3, rv4, rv5, rv6, rv7, sm0, sm1, bl0, bl1, bl2, bl3, bl4, bl5, bl6, bl7, bl8, List.nil_append, List.cons_append, List.length_cons, List.length_nil, Nat.reduceBEq, Nat.reduceAdd, Nat.reduceSub, ta, tb, tn0, tn1, tn2, tn3, tn4, tn5, tn6, tn7, tn8, tn9, tn10, tn11, tn12]
    refine zfor (A.T.1 2) (fun i => [some refR, some (.inl (nI m)), some (.inl (nI (bsB (fun r => decide (S1 7 r = 1 ∧ ¬ A.S 7 r = 1)) i))), some (.inl (nI i))]) (fun _ => (I2, L2, P)) (fun i hi self hs => ?_) (fun self => ?_)
    · have up : (S1 7 i = 1 ∧ ¬ A.S 7 i = 1) → self [some refR, some (.inl (nI m)), some (.inl (nI (bsB (fun r => decide (S1 7 r = 1 ∧ ¬ A.S 7 r = 1)) i) ||| (1 <<< (nI i &&& 31)))), some (.inl (nI (i + 1)))] [] (I2, L2, P) := fun c => by
        have e : bsB (fun r => decide (S1 7 r = 1 ∧ ¬ A.S 7 r = 1)) (i + 1) = bsB (fun r => decide (S1 7 r = 1 ∧ ¬ A.S 7 r = 1)) i + 2 ^ i := by
          show _ + (if decide (S1 7 i = 1 ∧ ¬ A.S 7 i = 1) = true then 2 ^ i else 0) = _
          rw [if_pos (decide_eq_true c)]
        rw [bsB_or _ (by omega), ← e]; exact hs
      have no : ¬ (S1 7 i = 1 ∧ ¬ A.S 7 i = 1) → self [some refR, some (.inl (nI m)), some (.inl (nI (bsB (fun r => decide (S1 7 r = 1 ∧ ¬ A.S 7 r = 1)) i) ||| 0)), some (.inl (nI (i + 1)))] [] (I2, L2, P) := fun c => by
        have e : bsB (fun r => decide (S1 7 r = 1 ∧ ¬ A.S 7 r = 1)) (i + 1) = bsB (fun r => decide (S1 7 r = 1 ∧ ¬ A.S 7 r = 1)) i := by
          show _ + (if decide (S1 7 i = 1 ∧ ¬ A.S 7 i = 1) = true then 2 ^ i else 0) = _
          rw [if_neg (fun q => c (of_decide_eq_true q))]
          rfl
        rw [e] at hs
        rw [show nI (bsB (fun r => decide (S1 7 r = 1 ∧ ¬ A.S 7 r = 1)) i) ||| 0 = nI (bsB (fun r => decide (S1 7 r = 1 ∧ ¬ A.S 7 r = 1)) i) from Int32.or_zero]
        exact hs
      have a7 := (hS0.2.2.1 i hi).2.2.2.2.1
      have b7 := (hS1.2.2.1 i hi).2.2.2.2.1
      rw [show 10 * 0 + i = i by omega] at a7
      rw [show 10 * 1 + i = 10 + i by omega] at b7
      dsimp only [x_int, x_lng, x_ild, x_lld, x_ald, x_ist, x_ast, x_lst, x_inc, x_ii, x_id, x_i, x_ll, x_ld, x_l, x_cmp, x_i2l, x_l2i, x_if, x_ic, x_dup, x_pop, x_dup2, x_gI, x_gL, x_gR, x_g1, x_g0, x_gP, x_pI, x_pZ, x_pL, x_pP, x_al, x_as, x_all, x_asl, x_alr, x_len, x_cpy, x_m2, x_m1, x_m2l, x_m1l, x_call, x_cv, x_ri, x_rz, x_rl, x_rv, zg, zset, zbef, zlong, zcat, cond_true, cond_false, List.take, List.drop, rv1, rv2, rv3, rv4, rv5, rv6, rv7, sm0, sm1, bl0, bl1, bl2, bl3, bl4, bl5, bl6, bl7, bl8, List.nil_append, List.cons_append, List.length_cons, List.length_nil, Nat.reduceBEq, Nat.reduceAdd, Nat.reduceSub, ta, tb, tn0, tn1, tn2, tn3, tn4, tn5, tn6, tn7, tn8, tn9, tn10, tn11, tn12, zk_83, zl_83, bX12_fading_66, bX12_fading_67]
      rw [show (10 : Int32) + nI i = nI (10 + i) from n_add 10 i, n_cl (n := i) (by omega), n_cl (n := 10 + i) (by omega), a7, b7, n_succ i]
      exact ⟨fun c => absurd c (lt_go hT.1.2.2 (by omega) hi), fun _ => ⟨n_zin (by omega) (by decide), fun c => no (fun q => by rw [q.1] at c; exact absurd c (by decide)), fun c => ⟨n_zin (by omega) (by decide), fun d => up ⟨(wQ1 i hi).2.resolve_left c, by rw [d]; decide⟩, fun d => no (fun q => q.2 ((wQ i hi).2.resolve_left d))⟩⟩⟩
    · dsimp only [x_int, x_lng, x_ild, x_lld, x_ald, x_ist, x_ast, x_lst, x_inc, x_ii, x_id, x_i, x_ll, x_ld, x_l, x_cmp, x_i2l, x_l2i, x_if, x_ic, x_dup, x_pop, x_dup2, x_gI, x_gL, x_gR, x_g1, x_g0, x_gP, x_pI, x_pZ, x_pL, x_pP, x_al, x_as, x_all, x_asl, x_alr, x_len, x_cpy, x_m2, x_m1, x_m2l, x_m1l, x_call, x_cv, x_ri, x_rz, x_rl, x_rv, zg, zset, zbef, zlong, zcat, cond_true, cond_false, List.take, List.drop, rv1, rv2, rv3, rv4, rv5, rv6, rv7, sm0, sm1, bl0, bl1, bl2, bl3, bl4, bl5, bl6, bl7, bl8, List.nil_append, List.cons_append, List.length_cons, List.length_nil, Nat.reduceBEq, Nat.reduceAdd, Nat.reduceSub, ta, tb, tn0, tn1, tn2, tn3, tn4, tn5, tn6, tn7, tn8, tn9, tn10, tn11, tn12]
      exact ⟨fun _ => hk, fun c => absurd c (lt_out hT.1.2.2)⟩
  · have hk := hK I1 L f1 zeLr.rf
    rw [if_neg no] at hk
    exact ⟨fun _ => hk, fun z => absurd rfl z⟩
-- will
def wlS (S : aS) (h : Int32) : Nat → Option Nat
  | 0 => none
  | n + 1 => if S 6 n = h ∧ ¬ S 7 n = 1 then (match wlS S h n with
    | none => some n
    | some b => if S 4 n < S 4 b then some b else some n) else wlS S h n
theorem wlS_ok {S : aS} {h : Int32} : ∀ {n b : Nat}, wlS S h n = some b → b < n ∧ S 6 b = h := by
  intro n
  induction n with
  | zero => intro b e; cases e
  | succ n ih =>
    intro b e
    unfold wlS at e
    split at e
    · rename_i hc
      cases e2 : wlS S h n with
      | none => rw [e2] at e; cases e; exact ⟨by omega, hc.1⟩
      | some c =>
        rw [e2] at e
        have := ih e2
        dsimp only at e
        split at e
        · cases e; exact ⟨by omega, this.2⟩
        · cases e; exact ⟨by omega, hc.1⟩
    · have := ih e
      exact ⟨by omega, this.2⟩
def v_will (A : aA) (h n : Int32) : Int32 := if okN (A.T.1 0) h then (if okI n 0 99 then wbI (wlS (aNx A n) h (A.T.1 2)) else -1) else -1
theorem wbI_neg {o : Option Nat} (h : ∀ b, o = some b → b < 2147483648) : wbI o < 0 ↔ o = none := by
  cases o with
  | none => exact ⟨fun _ => rfl, fun _ => by decide⟩
  | some b =>
    constructor
    · intro q
      have q : nI b < nI 0 := q
      rw [n_lt (h b rfl) (by omega)] at q
      omega
    · intro q; cases q
theorem c_will {K : zQ} {I : zI} {L : zJ} {P : zP} {A : aA} {h n : Int32} (wT : WT A.T) (wS : WS A.T A.S) (hC : RC A I P) (hK : ∀ (I' : zI) (L' : zJ) (P' : zP), frQ I I' → zeL2 L L' → frP P P' → K [.inl (v_will A h n)] (I', L', P')) : mX11_will K [kbR, .inl h, .inl n] (I, L, P) := by
  obtain ⟨t, hT0, h110, -, -⟩ := hC.b
  unfold v_will aNx at hK
  show bX11_will_0 K [some (.inr (.inr (11,0))), some (.inl h), some (.inl n), none, none, none] [] (I, L, P)
  unfold bX11_will_0
  dsimp only [x_int, x_lng, x_ild, x_lld, x_ald, x_ist, x_ast, x_lst, x_inc, x_ii, x_id, x_i, x_ll, x_ld, x_l, x_cmp, x_i2l, x_l2i, x_if, x_ic, x_dup, x_pop, x_dup2, x_gI, x_gL, x_gR, x_g1, x_g0, x_gP, x_pI, x_pZ, x_pL, x_pP, x_al, x_as, x_all, x_asl, x_alr, x_len, x_cpy, x_m2, x_m1, x_m2l, x_m1l, x_call, x_cv, x_ri, x_rz, x_rl, x_rv, zg, zset, zbef, zlong, zcat, cond_true, cond_false, List.take, List.drop, rv1, rv2, rv3, rv4, rv5, rv6, rv7, sm0, sm1, bl0, bl1, bl2, bl3, bl4, bl5, bl6, bl7, bl8, List.nil_append, List.cons_append, List.length_cons, List.length_nil, Nat.reduceBEq, Nat.reduceAdd, Nat.reduceSub, ta, tb, tn0, tn1, tn2, tn3, tn4, tn5, tn6, tn7, tn8, tn9, tn10, tn11, tn12]
  refine p_isHandC hT0 h110 (fun okh => ?_) (fun no => ?_)
  · dsimp only [x_int, x_lng, x_ild, x_lld, x_ald, x_ist, x_ast, x_lst, x_inc, x_ii, x_id, x_i, x_ll, x_ld, x_l, x_cmp, x_i2l, x_l2i, x_if, x_ic, x_dup, x_pop, x_dup2, x_gI, x_gL, x_gR, x_g1, x_g0, x_gP, x_pI, x_pZ, x_pL, x_pP, x_al, x_as, x_all, x_asl, x_alr, x_len, x_cpy, x_m2, x_m1, x_m2l, x_m1l, x_call, x_cv, x_ri, x_rz, x_rl, x_rv, zg, zset, zbef, zlong, zcat, cond_true, cond_false, List.take, List.drop, rv1, rv2, rv3, rv4, rv5, rv6, rv7, sm0, sm1, bl0, bl1, bl2, bl3, bl4, bl5, bl6, bl7, bl8, List.nil_append, List.cons_append, List.length_cons, List.length_nil, Nat.reduceBEq, Nat.reduceAdd, Nat.reduceSub, ta, tb, tn0, tn1, tn2, tn3, tn4, tn5, tn6, tn7, tn8, tn9, tn10, tn11, tn12]
    refine ⟨fun z => absurd z (by decide), fun _ => p_isSpan (fun ok => ?_) (fun no => ?_)⟩
    · obtain ⟨m, rfl, hm⟩ := span_of ok
      simp only [if_pos okh, if_pos ok, n_cl (show m < 2147483648 by omega)] at hK
      dsimp only [x_int, x_lng, x_ild, x_lld, x_ald, x_ist, x_ast, x_lst, x_inc, x_ii, x_id, x_i, x_ll, x_ld, x_l, x_cmp, x_i2l, x_l2i, x_if, x_ic, x_dup, x_pop, x_dup2, x_gI, x_gL, x_gR, x_g1, x_g0, x_gP, x_pI, x_pZ, x_pL, x_pP, x_al, x_as, x_all, x_asl, x_alr, x_len, x_cpy, x_m2, x_m1, x_m2l, x_m1l, x_call, x_cv, x_ri, x_rz, x_rl, x_rv, zg, zset, zbef, zlong, zcat, cond_true, cond_false, List.take, List.drop, rv1, rv2, rv3, rv4, rv5, rv6, rv7, sm0, sm1, bl0, bl1, bl2, bl3, bl4, bl5, bl6, bl7, bl8, List.nil_append, List.cons_append, List.length_cons, List.length_nil, Nat.reduceBEq, Nat.reduceAdd, Nat.reduceSub, ta, tb, tn0, tn1, tn2, tn3, tn4, tn5, tn6, tn7, tn8, tn9, tn10, tn11, tn12]
      refine ⟨fun z => absurd z (by decide), fun _ => p_trial hC (fun t I1 P1 q1 q2 hT h11 h82 h80 hS2 hS0 => ?_)⟩
      dsimp only [x_int, x_lng, x_ild, x_lld, x_ald, x_ist, x_ast, x_lst, x_inc, x_ii, x_id, x_i, x_ll, x_ld, x_l, x_cmp, x_i2l, x_l2i, x_if, x_ic, x_dup, x_pop, x_dup2, x_gI, x_gL, x_gR, x_g1, x_g0, x_gP, x_pI, x_pZ, x_pL, x_pP, x_al, x_as, x_all, x_asl, x_alr, x_len, x_cpy, x_m2, x_m1, x_m2l, x_m1l, x_call, x_cv, x_ri, x_rz, x_rl, x_rv, zg, zset, zbef, zlong, zcat, cond_true, cond_false, List.take, List.drop, rv1, rv2, rv3, rv4, rv5, rv6, rv7, sm0, sm1, bl0, bl1, bl2, bl3, bl4, bl5, bl6, bl7, bl8, List.nil_append, List.cons_append, List.length_cons, List.length_nil, Nat.reduceBEq, Nat.reduceAdd, Nat.reduceSub, ta, tb, tn0, tn1, tn2, tn3, tn4, tn5, tn6, tn7, tn8, tn9, tn10, tn11, tn12]
      refine p_pass (fd := true) (dr := false) (n := m) (by omega) (Or.inl ⟨rfl, rfl⟩) (Or.inr ⟨by decide, rfl⟩) h82 hT hS2 wT wS (fun I2 L2 hL2 hI2 hS3 => ?_)
      have q3 := frS_Q hI2
      have hT2 := q3.CT hT
      have r10 := hT.r10
      have hk := hK I2 L2 P1 (q1.tr q3) hL2 q2
      generalize aPass A.T false true m A.S = S1 at *
      dsimp only [x_int, x_lng, x_ild, x_lld, x_ald, x_ist, x_ast, x_lst, x_inc, x_ii, x_id, x_i, x_ll, x_ld, x_l, x_cmp, x_i2l, x_l2i, x_if, x_ic, x_dup, x_pop, x_dup2, x_gI, x_gL, x_gR, x_g1, x_g0, x_gP, x_pI, x_pZ, x_pL, x_pP, x_al, x_as, x_all, x_asl, x_alr, x_len, x_cpy, x_m2, x_m1, x_m2l, x_m1l, x_call, x_cv, x_ri, x_rz, x_rl, x_rv, zg, zset, zbef, zlong, zcat, cond_true, cond_false, List.take, List.drop, rv1, rv2, rv3, rv4, rv5, rv6, rv7, sm0, sm1, bl0, bl1, bl2, bl3, bl4, bl5, bl6, bl7, bl8, List.nil_append, List.cons_append, List.length_cons, List.length_nil, Nat.reduceBEq, Nat.reduceAdd, Nat.reduceSub, ta, tb, tn0, tn1, tn2, tn3, tn4, tn5, tn6, tn7, tn8, tn9, tn10, tn11, tn12]
      refine zinv (A.T.1 2) (fun i Z M => ∃ z5 : Option zV, Z = [some kbR, some (.inl h), some (.inl (nI m)), some (.inl (wbI (wlS S1 h i))), some (.inl (nI i)), z5] ∧ M = (I2, L2, P1)) ?_ ?_ ⟨none, rfl, rfl⟩
      · rintro i Z M hi ⟨z5, rfl, rfl⟩ self hself
        obtain ⟨c1, c2, c3, c4, c5⟩ := hS3.2.2.1 i hi
        have zi : zin (nI i) 10 := n_zin (by omega) (by decide)
        have es : wlS S1 h (i + 1) = (if S1 6 i = h ∧ ¬ S1 7 i = 1 then (match wlS S1 h i with
          | none => some i
          | some b => if S1 4 i < S1 4 b then some b else some i) else wlS S1 h i) := rfl
        have skip : ∀ z5 : Option zV, ¬ (S1 6 i = h ∧ ¬ S1 7 i = 1) → self [some kbR, some (.inl h), some (.inl (nI m)), some (.inl (wbI (wlS S1 h i))), some (.inl (nI (i + 1))), z5] [] (I2, L2, P1) := fun z5 c => hself _ _ ⟨z5, by rw [es, if_neg c], rfl⟩
        dsimp only [x_int, x_lng, x_ild, x_lld, x_ald, x_ist, x_ast, x_lst, x_inc, x_ii, x_id, x_i, x_ll, x_ld, x_l, x_cmp, x_i2l, x_l2i, x_if, x_ic, x_dup, x_pop, x_dup2, x_gI, x_gL, x_gR, x_g1, x_g0, x_gP, x_pI, x_pZ, x_pL, x_pP, x_al, x_as, x_all, x_asl, x_alr, x_len, x_cpy, x_m2, x_m1, x_m2l, x_m1l, x_call, x_cv, x_ri, x_rz, x_rl, x_rv, zg, zset, zbef, zlong, zcat, cond_true, cond_false, List.take, List.drop, rv1, rv2, rv3, rv4, rv5, rv6, rv7, sm0, sm1, bl0, bl1, bl2, bl3, bl4, bl5, bl6, bl7, bl8, List.nil_append, List.cons_append, List.length_cons, List.length_nil, Nat.reduceBEq, Nat.reduceAdd, Nat.reduceSub, ta, tb, tn0, tn1, tn2, tn3, tn4, tn5, tn6, tn7, tn8, tn9, tn10, tn11, tn12, zk_39, zl_39, bX11_will_86, bX11_will_87, bX11_will_123]
        rw [h11, n_cl (n := i) (by omega), c4, n_succ i]
        refine ⟨hT.1, fun c => absurd c (lt_go hT2.2.1.2.2 (by omega) hi), fun _ => ⟨zi, fun c => p_isFaded r10 hS3 hi ?_, fun c => ⟨fun _ => skip _ (fun q => c q.1), fun z => absurd rfl z⟩⟩⟩
        by_cases d : S1 7 i = 1
        · rw [if_pos d]
          dsimp only [x_int, x_lng, x_ild, x_lld, x_ald, x_ist, x_ast, x_lst, x_inc, x_ii, x_id, x_i, x_ll, x_ld, x_l, x_cmp, x_i2l, x_l2i, x_if, x_ic, x_dup, x_pop, x_dup2, x_gI, x_gL, x_gR, x_g1, x_g0, x_gP, x_pI, x_pZ, x_pL, x_pP, x_al, x_as, x_all, x_asl, x_alr, x_len, x_cpy, x_m2, x_m1, x_m2l, x_m1l, x_call, x_cv, x_ri, x_rz, x_rl, x_rv, zg, zset, zbef, zlong, zcat, cond_true, cond_false, List.take, List.drop, rv1, rv2, rv3, rv4, rv5, rv6, rv7, sm0, sm1, bl0, bl1, bl2, bl3, bl4, bl5, bl6, bl7, bl8, List.nil_append, List.cons_append, List.length_cons, List.length_nil, Nat.reduceBEq, Nat.reduceAdd, Nat.reduceSub, ta, tb, tn0, tn1, tn2, tn3, tn4, tn5, tn6, tn7, tn8, tn9, tn10, tn11, tn12, bX11_will_86, bX11_will_87, bX11_will_123]
          try rw [n_succ i]
          exact ⟨fun z => absurd z (by decide), fun _ => ⟨fun _ => skip _ (fun q => q.2 d), fun z => absurd rfl z⟩⟩
        · rw [if_neg d]
          rw [if_pos ⟨c, d⟩] at es
          dsimp only [x_int, x_lng, x_ild, x_lld, x_ald, x_ist, x_ast, x_lst, x_inc, x_ii, x_id, x_i, x_ll, x_ld, x_l, x_cmp, x_i2l, x_l2i, x_if, x_ic, x_dup, x_pop, x_dup2, x_gI, x_gL, x_gR, x_g1, x_g0, x_gP, x_pI, x_pZ, x_pL, x_pP, x_al, x_as, x_all, x_asl, x_alr, x_len, x_cpy, x_m2, x_m1, x_m2l, x_m1l, x_call, x_cv, x_ri, x_rz, x_rl, x_rv, zg, zset, zbef, zlong, zcat, cond_true, cond_false, List.take, List.drop, rv1, rv2, rv3, rv4, rv5, rv6, rv7, sm0, sm1, bl0, bl1, bl2, bl3, bl4, bl5, bl6, bl7, bl8, List.nil_append, List.cons_append, List.length_cons, List.length_nil, Nat.reduceBEq, Nat.reduceAdd, Nat.reduceSub, ta, tb, tn0, tn1, tn2, tn3, tn4, tn5, tn6, tn7, tn8, tn9, tn10, tn11, tn12, zk_37, zl_37, bX11_will_86, bX11_will_87, bX11_will_120, bX11_will_123]
          try rw [n_succ i]
          refine ⟨fun _ => ⟨fun z => absurd z (by decide), fun _ => ⟨fun q => ?_, fun q => ?_⟩⟩, fun z => absurd rfl z⟩
          · have e := (wbI_neg (fun b hb => by have := (wlS_ok hb).1; omega)).mp q
            rw [e] at es
            exact hself _ _ ⟨some (.inl 1), by rw [es]; rfl, rfl⟩
          · cases e : wlS S1 h i with
            | none => rw [e] at q; exact absurd (by decide) q
            | some b =>
              have hb := (wlS_ok e).1
              rw [e] at es
              dsimp only at es
              have eb : wbI (some b) = nI b := rfl
              rw [eb, n_cl (n := b) (by omega), c2, (hS3.2.2.1 b (by omega)).2.1]
              refine ⟨zi, n_zin (by omega) (by decide), fun f => hself _ _ ⟨some (.inl 1), by rw [es, if_pos f]; rfl, rfl⟩, fun f => hself _ _ ⟨some (.inl 1), by rw [es, if_neg f]; rfl, rfl⟩⟩
      · rintro Z M ⟨z5, rfl, rfl⟩ self
        dsimp only [x_int, x_lng, x_ild, x_lld, x_ald, x_ist, x_ast, x_lst, x_inc, x_ii, x_id, x_i, x_ll, x_ld, x_l, x_cmp, x_i2l, x_l2i, x_if, x_ic, x_dup, x_pop, x_dup2, x_gI, x_gL, x_gR, x_g1, x_g0, x_gP, x_pI, x_pZ, x_pL, x_pP, x_al, x_as, x_all, x_asl, x_alr, x_len, x_cpy, x_m2, x_m1, x_m2l, x_m1l, x_call, x_cv, x_ri, x_rz, x_rl, x_rv, zg, zset, zbef, zlong, zcat, cond_true, cond_false, List.take, List.drop, rv1, rv2, rv3, rv4, rv5, rv6, rv7, sm0, sm1, bl0, bl1, bl2, bl3, bl4, bl5, bl6, bl7, bl8, List.nil_append, List.cons_append, List.length_cons, List.length_nil, Nat.reduceBEq, Nat.reduceAdd, Nat.reduceSub, ta, tb, tn0, tn1, tn2, tn3, tn4, tn5, tn6, tn7, tn8, tn9, tn10, tn11, tn12]
        rw [h11]
        exact ⟨hT.1, fun _ => hk, fun c => absurd c (lt_out hT2.2.1.2.2)⟩
    · have hk := hK I L P frQ.rf zeL2.rf frP.rf
      rw [if_pos okh, if_neg no] at hk
      exact ⟨fun _ => hk, fun z => absurd rfl z⟩
  · have hk := hK I L P frQ.rf zeL2.rf frP.rf
    rw [if_neg no] at hk
    exact ⟨fun _ => hk, fun z => absurd rfl z⟩
theorem r_will {K : zQ} {I : zI} {L : zJ} {P : zP} {A : aA} {h n : Int32} (wT : WT A.T) (wS : WS A.T A.S) (wQ : WQ A.T A.S) (wL : WL A.S) (wB : WB A.T A.S) (hR : RR A I L) (hK : ∀ (I' : zI) (L' : zJ), frR I I' → zeLr L L' → K [.inl (v_will A h n)] (I', L', P)) : mX12_will K [refR, .inl h, .inl n] (I, L, P) := by
  unfold v_will aNx at hK
  show bX12_will_0 K [some (.inr (.inr (12,0))), some (.inl h), some (.inl n), none, none] [] (I, L, P)
  unfold bX12_will_0
  obtain ⟨I1, e9, hR1, f1⟩ := r_thr P hR
  dsimp only [x_ald, x_int, x_pI, zg, Nat.reduceBEq, cond_true]
  rw [e9]
  dsimp only [x_int, x_lng, x_ild, x_lld, x_ald, x_ist, x_ast, x_lst, x_inc, x_ii, x_id, x_i, x_ll, x_ld, x_l, x_cmp, x_i2l, x_l2i, x_if, x_ic, x_dup, x_pop, x_dup2, x_gI, x_gL, x_gR, x_g1, x_g0, x_gP, x_pI, x_pZ, x_pL, x_pP, x_al, x_as, x_all, x_asl, x_alr, x_len, x_cpy, x_m2, x_m1, x_m2l, x_m1l, x_call, x_cv, x_ri, x_rz, x_rl, x_rv, zg, zset, zbef, zlong, zcat, cond_true, cond_false, List.take, List.drop, rv1, rv2, rv3, rv4, rv5, rv6, rv7, sm0, sm1, bl0, bl1, bl2, bl3, bl4, bl5, bl6, bl7, bl8, List.nil_append, List.cons_append, List.length_cons, List.length_nil, Nat.reduceBEq, Nat.reduceAdd, Nat.reduceSub, ta, tb, tn0, tn1, tn2, tn3, tn4, tn5, tn6, tn7, tn8, tn9, tn10, tn11, tn12]
  refine p_isHandR hR1.1 (fun okh => ?_) (fun no => ?_)
  · dsimp only [x_int, x_lng, x_ild, x_lld, x_ald, x_ist, x_ast, x_lst, x_inc, x_ii, x_id, x_i, x_ll, x_ld, x_l, x_cmp, x_i2l, x_l2i, x_if, x_ic, x_dup, x_pop, x_dup2, x_gI, x_gL, x_gR, x_g1, x_g0, x_gP, x_pI, x_pZ, x_pL, x_pP, x_al, x_as, x_all, x_asl, x_alr, x_len, x_cpy, x_m2, x_m1, x_m2l, x_m1l, x_call, x_cv, x_ri, x_rz, x_rl, x_rv, zg, zset, zbef, zlong, zcat, cond_true, cond_false, List.take, List.drop, rv1, rv2, rv3, rv4, rv5, rv6, rv7, sm0, sm1, bl0, bl1, bl2, bl3, bl4, bl5, bl6, bl7, bl8, List.nil_append, List.cons_append, List.length_cons, List.length_nil, Nat.reduceBEq, Nat.reduceAdd, Nat.reduceSub, ta, tb, tn0, tn1, tn2, tn3, tn4, tn5, tn6, tn7, tn8, tn9, tn10, tn11, tn12]
    refine ⟨fun z => absurd z (by decide), fun _ => p_isIn (fun ok => ?_) (fun no => ?_)⟩
    · obtain ⟨m, rfl, hm⟩ := span_of ok
      simp only [if_pos okh, if_pos ok, n_cl (show m < 2147483648 by omega)] at hK
      dsimp only [x_int, x_lng, x_ild, x_lld, x_ald, x_ist, x_ast, x_lst, x_inc, x_ii, x_id, x_i, x_ll, x_ld, x_l, x_cmp, x_i2l, x_l2i, x_if, x_ic, x_dup, x_pop, x_dup2, x_gI, x_gL, x_gR, x_g1, x_g0, x_gP, x_pI, x_pZ, x_pL, x_pP, x_al, x_as, x_all, x_asl, x_alr, x_len, x_cpy, x_m2, x_m1, x_m2l, x_m1l, x_call, x_cv, x_ri, x_rz, x_rl, x_rv, zg, zset, zbef, zlong, zcat, cond_true, cond_false, List.take, List.drop, rv1, rv2, rv3, rv4, rv5, rv6, rv7, sm0, sm1, bl0, bl1, bl2, bl3, bl4, bl5, bl6, bl7, bl8, List.nil_append, List.cons_append, List.length_cons, List.length_nil, Nat.reduceBEq, Nat.reduceAdd, Nat.reduceSub, ta, tb, tn0, tn1, tn2, tn3, tn4, tn5, tn6, tn7, tn8, tn9, tn10, tn11, tn12]
      refine ⟨fun z => absurd z (by decide), fun _ => p_layR hR1 (fun I9 f9 hR9 hS9 => ?_)⟩
      dsimp only [x_int, x_lng, x_ild, x_lld, x_ald, x_ist, x_ast, x_lst, x_inc, x_ii, x_id, x_i, x_ll, x_ld, x_l, x_cmp, x_i2l, x_l2i, x_if, x_ic, x_dup, x_pop, x_dup2, x_gI, x_gL, x_gR, x_g1, x_g0, x_gP, x_pI, x_pZ, x_pL, x_pP, x_al, x_as, x_all, x_asl, x_alr, x_len, x_cpy, x_m2, x_m1, x_m2l, x_m1l, x_call, x_cv, x_ri, x_rz, x_rl, x_rv, zg, zset, zbef, zlong, zcat, cond_true, cond_false, List.take, List.drop, rv1, rv2, rv3, rv4, rv5, rv6, rv7, sm0, sm1, bl0, bl1, bl2, bl3, bl4, bl5, bl6, bl7, bl8, List.nil_append, List.cons_append, List.length_cons, List.length_nil, Nat.reduceBEq, Nat.reduceAdd, Nat.reduceSub, ta, tb, tn0, tn1, tn2, tn3, tn4, tn5, tn6, tn7, tn8, tn9, tn10, tn11, tn12]
      refine p_goR hm wT wS wQ wL hR9 hS9 (fun I2 L2 f2 hL2 hT hS1 hS0 => ?_)
      have hk := hK I2 L2 ((f1.tr f9).tr f2) hL2
      have wQ1 : WQ A.T (aPass A.T false true m A.S) := wQ.pass _ _ _
      have wB1 : WB A.T (aPass A.T false true m A.S) := wB.pass _ _ _
      have r10 := hT.r10
      generalize aPass A.T false true m A.S = S1 at *
      dsimp only [x_int, x_lng, x_ild, x_lld, x_ald, x_ist, x_ast, x_lst, x_inc, x_ii, x_id, x_i, x_ll, x_ld, x_l, x_cmp, x_i2l, x_l2i, x_if, x_ic, x_dup, x_pop, x_dup2, x_gI, x_gL, x_gR, x_g1, x_g0, x_gP, x_pI, x_pZ, x_pL, x_pP, x_al, x_as, x_all, x_asl, x_alr, x_len, x_cpy, x_m2, x_m1, x_m2l, x_m1l, x_call, x_cv, x_ri, x_rz, x_rl, x_rv, zg, zset, zbef, zlong, zcat, cond_true, cond_false, List.take, List.drop, rv1, rv2, rv3, rv4, rv5, rv6, rv7, sm0, sm1, bl0, bl1, bl2, bl3, bl4, bl5, bl6, bl7, bl8, List.nil_append, List.cons_append, List.length_cons, List.length_nil, Nat.reduceBEq, Nat.reduceAdd, Nat.reduceSub, ta, tb, tn0, tn1, tn2, tn3, tn4, tn5, tn6, tn7, tn8, tn9, tn10, tn11, tn12]
      refine zinv (A.T.1 2) (fun i Z M => Z = [some refR, some (.inl h), some (.inl (nI m)), some (.inl (wbI (wlS S1 h i))), some (.inl (nI i))] ∧ M = (I2, L2, P)) ?_ ?_ ⟨rfl, rfl⟩
      · rintro i Z M hi ⟨rfl, rfl⟩ self hself
        obtain ⟨b1, b2, b3, b4, b5, b6, b7⟩ := hS1.2.2.1 i hi
        rw [show 10 * 1 + i = 10 + i by omega] at b3 b4 b5 b6
        have zi : zin (nI (10 + i)) 20 := n_zin (by omega) (by decide)
        have o10 : ∀ i, (10 : Int32) + nI i = nI (10 + i) := fun i => n_add 10 i
        have es : wlS S1 h (i + 1) = (if S1 6 i = h ∧ ¬ S1 7 i = 1 then (match wlS S1 h i with
          | none => some i
          | some b => if S1 4 i < S1 4 b then some b else some i) else wlS S1 h i) := rfl
        have skip : ¬ (S1 6 i = h ∧ ¬ S1 7 i = 1) → self [some refR, some (.inl h), some (.inl (nI m)), some (.inl (wbI (wlS S1 h i))), some (.inl (nI (i + 1)))] [] (I2, L2, P) := fun c => hself _ _ ⟨by rw [es, if_neg c], rfl⟩
        dsimp only [x_int, x_lng, x_ild, x_lld, x_ald, x_ist, x_ast, x_lst, x_inc, x_ii, x_id, x_i, x_ll, x_ld, x_l, x_cmp, x_i2l, x_l2i, x_if, x_ic, x_dup, x_pop, x_dup2, x_gI, x_gL, x_gR, x_g1, x_g0, x_gP, x_pI, x_pZ, x_pL, x_pP, x_al, x_as, x_all, x_asl, x_alr, x_len, x_cpy, x_m2, x_m1, x_m2l, x_m1l, x_call, x_cv, x_ri, x_rz, x_rl, x_rv, zg, zset, zbef, zlong, zcat, cond_true, cond_false, List.take, List.drop, rv1, rv2, rv3, rv4, rv5, rv6, rv7, sm0, sm1, bl0, bl1, bl2, bl3, bl4, bl5, bl6, bl7, bl8, List.nil_append, List.cons_append, List.length_cons, List.length_nil, Nat.reduceBEq, Nat.reduceAdd, Nat.reduceSub, ta, tb, tn0, tn1, tn2, tn3, tn4, tn5, tn6, tn7, tn8, tn9, tn10, tn11, tn12, zk_81, zl_81, zk_82, zl_82, zk_83, zl_83, zk_84, zl_84, bX12_will_119, bX12_will_125, bX12_will_126]
        rw [o10, n_cl (n := 10 + i) (by omega), b3, b4, b5, n_succ i]
        refine ⟨fun c => absurd c (lt_go hT.1.2.2 (by omega) hi), fun _ => ⟨zi, fun c1 => ⟨zi, fun c2 => ⟨zi, fun c3 => ?_, fun c3 => skip (fun q => q.2 ((wQ1 i hi).2.resolve_left c3))⟩, fun c2 => skip (fun q => c2 q.1)⟩, fun c1 => skip (fun q => wB1.no hi c1 okh q.1)⟩⟩
        have n7 : ¬ S1 7 i = 1 := by rw [c3]; decide
        rw [if_pos ⟨c2, n7⟩] at es
        refine ⟨fun q => ?_, fun q => ?_⟩
        · have e := (wbI_neg (fun b hb => by have := (wlS_ok hb).1; omega)).mp q
          rw [e] at es
          exact hself _ _ ⟨by rw [es]; rfl, rfl⟩
        · cases e : wlS S1 h i with
          | none => rw [e] at q; exact absurd (by decide) q
          | some b =>
            obtain ⟨hb, hb6⟩ := wlS_ok e
            rw [e] at es
            dsimp only at es
            have eb : wbI (some b) = nI b := rfl
            obtain ⟨-, -, d3, -, -, d6, -⟩ := hS1.2.2.1 b (by omega)
            rw [show 10 * 1 + b = 10 + b by omega] at d6
            have s5 : S1 5 b = 1 := by
              by_cases z : S1 5 b = 1
              · exact z
              · exact absurd hb6 (wB1.no (by omega) z okh)
            rw [eb, o10, n_cl (n := 10 + b) (by omega), b6 (by rw [c1]; decide), d6 (by rw [s5]; decide)]
            refine ⟨zi, n_zin (by omega) (by decide), fun f => hself _ _ ⟨by rw [es, if_pos f]; rfl, rfl⟩, fun f => hself _ _ ⟨by rw [es, if_neg f]; rfl, rfl⟩⟩
      · rintro Z M ⟨rfl, rfl⟩ self
        dsimp only [x_int, x_lng, x_ild, x_lld, x_ald, x_ist, x_ast, x_lst, x_inc, x_ii, x_id, x_i, x_ll, x_ld, x_l, x_cmp, x_i2l, x_l2i, x_if, x_ic, x_dup, x_pop, x_dup2, x_gI, x_gL, x_gR, x_g1, x_g0, x_gP, x_pI, x_pZ, x_pL, x_pP, x_al, x_as, x_all, x_asl, x_alr, x_len, x_cpy, x_m2, x_m1, x_m2l, x_m1l, x_call, x_cv, x_ri, x_rz, x_rl, x_rv, zg, zset, zbef, zlong, zcat, cond_true, cond_false, List.take, List.drop, rv1, rv2, rv3, rv4, rv5, rv6, rv7, sm0, sm1, bl0, bl1, bl2, bl3, bl4, bl5, bl6, bl7, bl8, List.nil_append, List.cons_append, List.length_cons, List.length_nil, Nat.reduceBEq, Nat.reduceAdd, Nat.reduceSub, ta, tb, tn0, tn1, tn2, tn3, tn4, tn5, tn6, tn7, tn8, tn9, tn10, tn11, tn12]
        exact ⟨fun _ => hk, fun c => absurd c (lt_out hT.1.2.2)⟩
    · have hk := hK I1 L f1 zeLr.rf
      rw [if_pos okh, if_neg no] at hk
      exact ⟨fun _ => hk, fun z => absurd rfl z⟩
  · have hk := hK I1 L f1 zeLr.rf
    rw [if_neg no] at hk
    exact ⟨fun _ => hk, fun z => absurd rfl z⟩
