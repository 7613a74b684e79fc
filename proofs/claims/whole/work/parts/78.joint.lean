theorem zsP_ex (I : zI) (L : zJ) (P : zP) (k i s j : Nat) : ∃ P3 : zP, zsP (I, L, P) k i s j = (I, L, P3) ∧ P3 k i s = j ∧ ∀ a b c, ¬ (a = k ∧ b = i ∧ c = s) → P3 a b c = P a b c := ⟨_, rfl, if_pos ⟨rfl, rfl, rfl⟩, fun _ _ _ q => if_neg q⟩
abbrev rwR : zV := .inr (.inr (6, 0))
theorem p_masks {K : zQ} {I : zI} {L : zJ} {P : zP} {T : aT} {x y a b : Nat} (ha : ∀ k, k < 6 → I 14 x k = T.2.1 3 (6 * a + k)) (hb : ∀ k, k < 6 → I 14 y k = T.2.1 3 (6 * b + k)) (hK : K [.inl (nI (mkN T a b))] (I, L, P)) : mX1_masks K [.inr (.inr (1, x)), .inr (.inr (1, y))] (I, L, P) := by
  unfold mkN at hK
  show bX1_masks_0 K [some (.inr (.inr (1,x))), some (.inr (.inr (1,y)))] [] (I, L, P)
  unfold bX1_masks_0
  dsimp only [x_int, x_lng, x_ild, x_lld, x_ald, x_ist, x_ast, x_lst, x_inc, x_ii, x_id, x_i, x_ll, x_ld, x_l, x_cmp, x_i2l, x_l2i, x_if, x_ic, x_dup, x_pop, x_dup2, x_gI, x_gL, x_gR, x_g1, x_g0, x_gP, x_pI, x_pZ, x_pL, x_pP, x_al, x_as, x_all, x_asl, x_alr, x_len, x_cpy, x_m2, x_m1, x_m2l, x_m1l, x_call, x_cv, x_ri, x_rz, x_rl, x_rv, zg, zset, zbef, zlong, zcat, cond_true, cond_false, List.take, List.drop, rv1, rv2, rv3, rv4, rv5, rv6, rv7, sm0, sm1, bl0, bl1, bl2, bl3, bl4, bl5, bl6, bl7, bl8, List.nil_append, List.cons_append, List.length_cons, List.length_nil, Nat.reduceBEq, Nat.reduceAdd, Nat.reduceSub, ta, tb, tn0, tn1, tn2, tn3, tn4, tn5, tn6, tn7, tn8, tn9, tn10, tn11, tn12, zk_14, zl_14, bX1_masks_20]
  rw [ha 5 (by omega), hb 0 (by omega), show 6 * b + 0 = 6 * b from rfl]
  refine ⟨n_zin (i := 5) (by decide) (by decide), n_zin (i := 0) (by decide) (by decide), fun c => ⟨Or.inr rfl, ?_⟩, fun c => ⟨Or.inl rfl, ?_⟩⟩
  · rw [if_pos c] at hK; exact hK
  · rw [if_neg c] at hK; exact hK
theorem p_isMasked {K : zQ} {I : zI} {L : zJ} {P : zP} {T : aT} {t b : Nat} {o : Option Nat} (hP : P 6 0 2 = t) (hT : CT I t T) (ho : ∀ a, o = some a → a < T.1 0) (hb : b < T.1 0) (hK : K [.inl (nI (mkO T o b))] (I, L, P)) : mX6_isMasked K [rwR, .inl (wbR o), .inl (nI b)] (I, L, P) := by
  have h6 := hT.h6
  show bX6_isMasked_0 K [some (.inr (.inr (6,0))), some (.inl (wbR o)), some (.inl (nI b))] [] (I, L, P)
  unfold bX6_isMasked_0
  dsimp only [x_int, x_lng, x_ild, x_lld, x_ald, x_ist, x_ast, x_lst, x_inc, x_ii, x_id, x_i, x_ll, x_ld, x_l, x_cmp, x_i2l, x_l2i, x_if, x_ic, x_dup, x_pop, x_dup2, x_gI, x_gL, x_gR, x_g1, x_g0, x_gP, x_pI, x_pZ, x_pL, x_pP, x_al, x_as, x_all, x_asl, x_alr, x_len, x_cpy, x_m2, x_m1, x_m2l, x_m1l, x_call, x_cv, x_ri, x_rz, x_rl, x_rv, zg, zset, zbef, zlong, zcat, cond_true, cond_false, List.take, List.drop, rv1, rv2, rv3, rv4, rv5, rv6, rv7, sm0, sm1, bl0, bl1, bl2, bl3, bl4, bl5, bl6, bl7, bl8, List.nil_append, List.cons_append, List.length_cons, List.length_nil, Nat.reduceBEq, Nat.reduceAdd, Nat.reduceSub, ta, tb, tn0, tn1, tn2, tn3, tn4, tn5, tn6, tn7, tn8, tn9, tn10, tn11, tn12, zl_43, bX6_isMasked_33, bX6_isMasked_34]
  cases o with
  | none => exact ⟨fun _ => ⟨Or.inl rfl, hK⟩, fun z => absurd rfl z⟩
  | some a =>
    have ha := ho a rfl
    dsimp only [wbR]
    rw [hP, n_cl (n := a) (by omega), n_cl (n := b) (by omega)]
    refine ⟨fun z => absurd z (n_ne1 (by omega)), fun _ => ⟨hT.1, n_zin (by omega) (by decide), hT.1, n_zin (by omega) (by decide), p_masks (hT.hand ha).2.2.2 (hT.hand hb).2.2.2 ?_⟩⟩
    dsimp only [x_int, x_lng, x_ild, x_lld, x_ald, x_ist, x_ast, x_lst, x_inc, x_ii, x_id, x_i, x_ll, x_ld, x_l, x_cmp, x_i2l, x_l2i, x_if, x_ic, x_dup, x_pop, x_dup2, x_gI, x_gL, x_gR, x_g1, x_g0, x_gP, x_pI, x_pZ, x_pL, x_pP, x_al, x_as, x_all, x_asl, x_alr, x_len, x_cpy, x_m2, x_m1, x_m2l, x_m1l, x_call, x_cv, x_ri, x_rz, x_rl, x_rv, zg, zset, zbef, zlong, zcat, cond_true, cond_false, List.take, List.drop, rv1, rv2, rv3, rv4, rv5, rv6, rv7, sm0, sm1, bl0, bl1, bl2, bl3, bl4, bl5, bl6, bl7, bl8, List.nil_append, List.cons_append, List.length_cons, List.length_nil, Nat.reduceBEq, Nat.reduceAdd, Nat.reduceSub, ta, tb, tn0, tn1, tn2, tn3, tn4, tn5, tn6, tn7, tn8, tn9, tn10, tn11, tn12, bX6_isMasked_33, bX6_isMasked_34]
    have hK : K [.inl (nI (if T.2.1 3 (6 * a + 5) = T.2.1 3 (6 * b) then 1 else 0))] (I, L, P) := hK
    unfold mkN
    by_cases e : T.2.1 3 (6 * a + 5) = T.2.1 3 (6 * b)
    · rw [if_pos e] at hK ⊢
      exact ⟨fun z => absurd z (by decide), fun _ => ⟨Or.inr rfl, hK⟩⟩
    · rw [if_neg e] at hK ⊢
      exact ⟨fun _ => ⟨Or.inl rfl, hK⟩, fun z => absurd rfl z⟩
abbrev subm (r s : Nat) : Prop := nI r &&& (nI s ^^^ -1) = 0
theorem subm_s : ∀ s, s < 64 → ∀ r, r < 64 → subm r s → ∀ b, b < 6 → r.testBit b = true → subm (r - 2 ^ b) s := by decide +kernel
theorem subm_r : ∀ s, s < 64 → subm s s := by decide +kernel
theorem lft : ∀ r, r < 64 → ∀ b, b < 6 → r.testBit b = true → nI r &&& ((1 <<< (nI b &&& 31)) ^^^ -1) = nI (r - 2 ^ b) := by decide +kernel
theorem opt_le {T : aT} : ∀ (m r : Nat) (o : Option Nat), opt T m r o ≤ m := by
  intro m
  induction m with
  | zero => intro r o; exact Nat.le_refl 0
  | succ m ih =>
    intro r o
    cases e : bn T m r o with
    | none =>
      have : opt T (m + 1) r o = 0 := by
        show (match bn T m r o with
          | none => 0
          | some b => mkO T o b + opt T m (r - 2 ^ b) (some b)) = _
        rw [e]
      omega
    | some b =>
      rw [opt_some e]
      have := ih (r - 2 ^ b) (some b)
      have := mkO_1 T o b
      show mkO T o b + opt T m (r - 2 ^ b) (some b) ≤ m + 1
      omega
def tab (T : aT) (I : zI) (s B : Nat) : Prop := ∀ r, r < B → subm r s → ∀ l, l < T.1 0 → I 26 0 (r * 6 + l) = nI (opt T (pop6 r) r (some l))
theorem pow_lt_sub {r b : Nat} (h : r.testBit b = true) : r - 2 ^ b < r := by
  have : 2 ^ b ≤ r := Nat.ge_two_pow_of_testBit h
  have : 0 < 2 ^ b := Nat.two_pow_pos b
  omega
theorem p_costOf {K : zQ} {I : zI} {L : zJ} {P : zP} {T : aT} {t b s B m r : Nat} {o : Option Nat} (hP : P 6 0 2 = t) (hT : CT I t T) (ho : ∀ a, o = some a → a < T.1 0) (hb : b < T.1 0) (s6 : s < 64) (r6 : r < 64) (hB : r ≤ B) (hsm : subm r s) (htb : tab T I s B) (hm : pop6 r = m + 1) (hbit : r.testBit b = true) (hK : K [.inl (nI (cc T m r o b))] (I, L, P)) : mX6_costOf K [rwR, .inl (nI r), .inl (wbR o), .inl (nI b)] (I, L, P) := by
  have h6 := hT.h6
  have lt := pow_lt_sub hbit
  show bX6_costOf_0 K [some (.inr (.inr (6,0))), some (.inl (nI r)), some (.inl (wbR o)), some (.inl (nI b)), none] [] (I, L, P)
  unfold bX6_costOf_0
  dsimp only [x_int, x_lng, x_ild, x_lld, x_ald, x_ist, x_ast, x_lst, x_inc, x_ii, x_id, x_i, x_ll, x_ld, x_l, x_cmp, x_i2l, x_l2i, x_if, x_ic, x_dup, x_pop, x_dup2, x_gI, x_gL, x_gR, x_g1, x_g0, x_gP, x_pI, x_pZ, x_pL, x_pP, x_al, x_as, x_all, x_asl, x_alr, x_len, x_cpy, x_m2, x_m1, x_m2l, x_m1l, x_call, x_cv, x_ri, x_rz, x_rl, x_rv, zg, zset, zbef, zlong, zcat, cond_true, cond_false, List.take, List.drop, rv1, rv2, rv3, rv4, rv5, rv6, rv7, sm0, sm1, bl0, bl1, bl2, bl3, bl4, bl5, bl6, bl7, bl8, List.nil_append, List.cons_append, List.length_cons, List.length_nil, Nat.reduceBEq, Nat.reduceAdd, Nat.reduceSub, ta, tb, tn0, tn1, tn2, tn3, tn4, tn5, tn6, tn7, tn8, tn9, tn10, tn11, tn12]
  rw [lft r r6 b (by omega) hbit]
  refine p_isMasked hP hT ho hb ?_
  have e := htb (r - 2 ^ b) (by omega) (subm_s s s6 r r6 hsm b (by omega) hbit) b hb
  have pe := pop_sub r r6 b (by omega) hbit
  rw [show pop6 (r - 2 ^ b) = m by omega] at e
  dsimp only [x_int, x_lng, x_ild, x_lld, x_ald, x_ist, x_ast, x_lst, x_inc, x_ii, x_id, x_i, x_ll, x_ld, x_l, x_cmp, x_i2l, x_l2i, x_if, x_ic, x_dup, x_pop, x_dup2, x_gI, x_gL, x_gR, x_g1, x_g0, x_gP, x_pI, x_pZ, x_pL, x_pP, x_al, x_as, x_all, x_asl, x_alr, x_len, x_cpy, x_m2, x_m1, x_m2l, x_m1l, x_call, x_cv, x_ri, x_rz, x_rl, x_rv, zg, zset, zbef, zlong, zcat, cond_true, cond_false, List.take, List.drop, rv1, rv2, rv3, rv4, rv5, rv6, rv7, sm0, sm1, bl0, bl1, bl2, bl3, bl4, bl5, bl6, bl7, bl8, List.nil_append, List.cons_append, List.length_cons, List.length_nil, Nat.reduceBEq, Nat.reduceAdd, Nat.reduceSub, ta, tb, tn0, tn1, tn2, tn3, tn4, tn5, tn6, tn7, tn8, tn9, tn10, tn11, tn12, zk_26, zl_26, bX6_costOf_23]
  rw [show nI (r - 2 ^ b) * 6 + nI b = nI ((r - 2 ^ b) * 6 + b) by rw [show (6 : Int32) = nI 6 from rfl, n_mul, n_add], n_cl (n := (r - 2 ^ b) * 6 + b) (by omega), e]
  have zz : zin (nI ((r - 2 ^ b) * 6 + b)) 384 := n_zin (by omega) (by decide)
  have hk : ∀ v : Int32, v = nI (mkO T o b) → K [.inl (v + nI (opt T m (r - 2 ^ b) (some b)))] (I, L, P) := fun v hv => by
    rw [hv, n_add]; exact hK
  have h1 := mkO_1 T o b
  refine ⟨fun z => ⟨zz, hk 0 ?_⟩, fun z => ⟨zz, hk 1 ?_⟩⟩
  · exact (show nI (mkO T o b) = 0 from z).symm
  · have z : ¬ nI (mkO T o b) = nI 0 := z
    rw [n_eq (by omega) (by omega)] at z
    rw [show mkO T o b = 1 by omega]; rfl
def lstO (c : Nat → Nat) (o : Option Nat) : Int32 := match o with
  | none => 2147483647
  | some b => nI (c b)
def gtO (o : Option Nat) : Int32 := match o with
  | none => 0
  | some b => nI b
theorem p_bestNext {K : zQ} {I : zI} {L : zJ} {P : zP} {T : aT} {t s B m r : Nat} {o : Option Nat} (hP : P 6 0 2 = t) (hT : CT I t T) (ho : ∀ a, o = some a → a < T.1 0) (s6 : s < 64) (r6 : r < 64) (hB : r ≤ B) (hsm : subm r s) (htb : tab T I s B) (hm : pop6 r = m + 1 ∨ r = 0) (hK : K [.inl (gtO (bn T m r o))] (I, L, P)) : mX6_bestNext K [rwR, .inl (nI r), .inl (wbR o)] (I, L, P) := by
  have h6 := hT.h6
  show bX6_bestNext_9 K [some rwR, some (.inl (nI r)), some (.inl (wbR o)), some (.inl 0), some (.inl 2147483647), some (.inl 0)] [] (I, L, P)
  refine zinv (T.1 0) (fun i Z M => Z = [some rwR, some (.inl (nI r)), some (.inl (wbR o)), some (.inl (gtO (bnx (fun i => r.testBit i) (cc T m r o) i))), some (.inl (lstO (cc T m r o) (bnx (fun i => r.testBit i) (cc T m r o) i))), some (.inl (nI i))] ∧ M = (I, L, P)) ?_ ?_ ⟨rfl, rfl⟩
  · rintro i Z M hi ⟨rfl, rfl⟩ self hself
    have st := bnx_s (fun i => r.testBit i) (cc T m r o) i
    dsimp only [x_int, x_lng, x_ild, x_lld, x_ald, x_ist, x_ast, x_lst, x_inc, x_ii, x_id, x_i, x_ll, x_ld, x_l, x_cmp, x_i2l, x_l2i, x_if, x_ic, x_dup, x_pop, x_dup2, x_gI, x_gL, x_gR, x_g1, x_g0, x_gP, x_pI, x_pZ, x_pL, x_pP, x_al, x_as, x_all, x_asl, x_alr, x_len, x_cpy, x_m2, x_m1, x_m2l, x_m1l, x_call, x_cv, x_ri, x_rz, x_rl, x_rv, zg, zset, zbef, zlong, zcat, cond_true, cond_false, List.take, List.drop, rv1, rv2, rv3, rv4, rv5, rv6, rv7, sm0, sm1, bl0, bl1, bl2, bl3, bl4, bl5, bl6, bl7, bl8, List.nil_append, List.cons_append, List.length_cons, List.length_nil, Nat.reduceBEq, Nat.reduceAdd, Nat.reduceSub, ta, tb, tn0, tn1, tn2, tn3, tn4, tn5, tn6, tn7, tn8, tn9, tn10, tn11, tn12, bX6_bestNext_56]
    rw [hP, bitK i (by omega) r r6, n_succ i]
    refine ⟨hT.1, fun q => absurd q (lt_go hT.2.1.1 (by omega) hi), fun _ => ?_⟩
    by_cases b : r.testBit i = true
    · have hm' : pop6 r = m + 1 := by
        rcases hm with h | h
        · exact h
        · rw [h, Nat.zero_testBit] at b; cases b
      have p6 := pop_6 r
      have bd : ∀ j, cc T m r o j ≤ 7 := fun j => by
        have := opt_le (T := T) m (r - 2 ^ j) (some j)
        have := mkO_1 T o j
        show mkO T o j + opt T m (r - 2 ^ j) (some j) ≤ 7
        omega
      have bi := bd i
      rw [if_pos b] at st ⊢
      refine ⟨fun z => absurd z (by decide), fun _ => p_costOf hP hT ho hi s6 r6 hB hsm htb hm' b ?_⟩
      dsimp only [x_int, x_lng, x_ild, x_lld, x_ald, x_ist, x_ast, x_lst, x_inc, x_ii, x_id, x_i, x_ll, x_ld, x_l, x_cmp, x_i2l, x_l2i, x_if, x_ic, x_dup, x_pop, x_dup2, x_gI, x_gL, x_gR, x_g1, x_g0, x_gP, x_pI, x_pZ, x_pL, x_pP, x_al, x_as, x_all, x_asl, x_alr, x_len, x_cpy, x_m2, x_m1, x_m2l, x_m1l, x_call, x_cv, x_ri, x_rz, x_rl, x_rv, zg, zset, zbef, zlong, zcat, cond_true, cond_false, List.take, List.drop, rv1, rv2, rv3, rv4, rv5, rv6, rv7, sm0, sm1, bl0, bl1, bl2, bl3, bl4, bl5, bl6, bl7, bl8, List.nil_append, List.cons_append, List.length_cons, List.length_nil, Nat.reduceBEq, Nat.reduceAdd, Nat.reduceSub, ta, tb, tn0, tn1, tn2, tn3, tn4, tn5, tn6, tn7, tn8, tn9, tn10, tn11, tn12, bX6_bestNext_56]
      try rw [n_succ i]
      refine ⟨fun q => ?_, fun q => p_costOf hP hT ho hi s6 r6 hB hsm htb hm' b ?_⟩
      · cases e : bnx (fun i => r.testBit i) (cc T m r o) i with
        | none =>
          rw [e] at q
          have q : nI 2147483647 ≤ nI (cc T m r o i) := q
          rw [n_le (by omega) (by omega)] at q
          omega
        | some g =>
          rw [e] at q st
          have bg := bd g
          have q : nI (cc T m r o g) ≤ nI (cc T m r o i) := q
          rw [n_le (by omega) (by omega)] at q
          dsimp only at st
          rw [if_pos q] at st
          refine hself _ _ ⟨?_, rfl⟩
          rw [st]
      · dsimp only [x_int, x_lng, x_ild, x_lld, x_ald, x_ist, x_ast, x_lst, x_inc, x_ii, x_id, x_i, x_ll, x_ld, x_l, x_cmp, x_i2l, x_l2i, x_if, x_ic, x_dup, x_pop, x_dup2, x_gI, x_gL, x_gR, x_g1, x_g0, x_gP, x_pI, x_pZ, x_pL, x_pP, x_al, x_as, x_all, x_asl, x_alr, x_len, x_cpy, x_m2, x_m1, x_m2l, x_m1l, x_call, x_cv, x_ri, x_rz, x_rl, x_rv, zg, zset, zbef, zlong, zcat, cond_true, cond_false, List.take, List.drop, rv1, rv2, rv3, rv4, rv5, rv6, rv7, sm0, sm1, bl0, bl1, bl2, bl3, bl4, bl5, bl6, bl7, bl8, List.nil_append, List.cons_append, List.length_cons, List.length_nil, Nat.reduceBEq, Nat.reduceAdd, Nat.reduceSub, ta, tb, tn0, tn1, tn2, tn3, tn4, tn5, tn6, tn7, tn8, tn9, tn10, tn11, tn12, bX6_bestNext_56]
        try rw [n_succ i]
        refine hself _ _ ⟨?_, rfl⟩
        cases e : bnx (fun i => r.testBit i) (cc T m r o) i with
        | none =>
          rw [e] at st
          rw [st]; rfl
        | some g =>
          rw [e] at q st
          have bg := bd g
          have q : ¬ nI (cc T m r o g) ≤ nI (cc T m r o i) := q
          rw [n_le (by omega) (by omega)] at q
          dsimp only at st
          rw [if_neg q] at st
          rw [st]; rfl
    · rw [if_neg b] at st ⊢
      refine ⟨fun _ => hself _ _ ⟨?_, rfl⟩, fun z => absurd rfl z⟩
      rw [st]
  · rintro Z M ⟨rfl, rfl⟩ self
    dsimp only [x_int, x_lng, x_ild, x_lld, x_ald, x_ist, x_ast, x_lst, x_inc, x_ii, x_id, x_i, x_ll, x_ld, x_l, x_cmp, x_i2l, x_l2i, x_if, x_ic, x_dup, x_pop, x_dup2, x_gI, x_gL, x_gR, x_g1, x_g0, x_gP, x_pI, x_pZ, x_pL, x_pP, x_al, x_as, x_all, x_asl, x_alr, x_len, x_cpy, x_m2, x_m1, x_m2l, x_m1l, x_call, x_cv, x_ri, x_rz, x_rl, x_rv, zg, zset, zbef, zlong, zcat, cond_true, cond_false, List.take, List.drop, rv1, rv2, rv3, rv4, rv5, rv6, rv7, sm0, sm1, bl0, bl1, bl2, bl3, bl4, bl5, bl6, bl7, bl8, List.nil_append, List.cons_append, List.length_cons, List.length_nil, Nat.reduceBEq, Nat.reduceAdd, Nat.reduceSub, ta, tb, tn0, tn1, tn2, tn3, tn4, tn5, tn6, tn7, tn8, tn9, tn10, tn11, tn12]
    rw [hP]
    exact ⟨hT.1, fun _ => hK, fun q => absurd q (lt_out hT.2.1.1)⟩
theorem fr26_CT {I I' : zI} {t : Nat} {T : aT} (h : fr1 26 I I') (hT : CT I t T) : CT I' t T := hT.fr (fun a b c q => h a b c (fun e => by rw [e.1] at q; exact absurd q (by decide)))
theorem p_weigh {K : zQ} {I : zI} {L : zJ} {P : zP} {T : aT} {t s r : Nat} (hP : P 6 0 2 = t) (hT : CT I t T) (s6 : s < 64) (r6 : r < 64) (hr : r < 2 ^ T.1 0) (hsm : subm r s) (htb : tab T I s r) (hK : ∀ I' : zI, fr1 26 I I' → tab T I' s (r + 1) → K [] (I', L, P)) : mX6_weigh K [rwR, .inl (nI r)] (I, L, P) := by
  have h6 := hT.h6
  show bX6_weigh_2 K [some rwR, some (.inl (nI r)), some (.inl 0), none] [] (I, L, P)
  refine zinv (T.1 0) (fun i Z M => ∃ (I' : zI) (z3 : Option zV), Z = [some rwR, some (.inl (nI r)), some (.inl (nI i)), z3] ∧ M = (I', L, P) ∧ fr1 26 I I' ∧ tab T I' s r ∧ ∀ l, l < i → I' 26 0 (r * 6 + l) = nI (opt T (pop6 r) r (some l))) ?_ ?_ ⟨I, none, rfl, rfl, fun _ _ _ _ => rfl, htb, fun l hl => by omega⟩
  · rintro i Z M hi ⟨I', z3, rfl, rfl, q1, q2, q3⟩ self hself
    have hT' := fr26_CT q1 hT
    have ho : ∀ a, some i = some a → a < T.1 0 := fun a e => by cases e; exact hi
    have fin : ∀ v : Int32, v = nI (opt T (pop6 r) r (some i)) → ∀ z3 : Option zV, self [some rwR, some (.inl (nI r)), some (.inl (nI (i + 1))), z3] [] (zsI (I', L, P) 26 0 (r * 6 + i) v) := fun v hv z3 => by
      obtain ⟨I3, e3, w3, f3⟩ := zsI_ex I' L P 26 0 (r * 6 + i) v
      rw [e3]
      refine hself _ _ ⟨I3, z3, rfl, rfl, fun a b c q => ?_, fun r' hr' hs' l hl => ?_, fun l hl => ?_⟩
      · exact (f3 a b c (fun e => q ⟨e.1, e.2.1⟩)).trans (q1 a b c q)
      · exact (f3 26 0 (r' * 6 + l) (by omega)).trans (q2 r' hr' hs' l hl)
      · by_cases e : l = i
        · subst e; rw [w3]; exact hv
        · exact (f3 26 0 (r * 6 + l) (by omega)).trans (q3 l (by omega))
    have ix : nI r * 6 + nI i = nI (r * 6 + i) := by rw [show (6 : Int32) = nI 6 from rfl, n_mul, n_add]
    have zz : zin (nI (r * 6 + i)) 384 := n_zin (by omega) (by decide)
    dsimp only [x_int, x_lng, x_ild, x_lld, x_ald, x_ist, x_ast, x_lst, x_inc, x_ii, x_id, x_i, x_ll, x_ld, x_l, x_cmp, x_i2l, x_l2i, x_if, x_ic, x_dup, x_pop, x_dup2, x_gI, x_gL, x_gR, x_g1, x_g0, x_gP, x_pI, x_pZ, x_pL, x_pP, x_al, x_as, x_all, x_asl, x_alr, x_len, x_cpy, x_m2, x_m1, x_m2l, x_m1l, x_call, x_cv, x_ri, x_rz, x_rl, x_rv, zg, zset, zbef, zlong, zcat, cond_true, cond_false, List.take, List.drop, rv1, rv2, rv3, rv4, rv5, rv6, rv7, sm0, sm1, bl0, bl1, bl2, bl3, bl4, bl5, bl6, bl7, bl8, List.nil_append, List.cons_append, List.length_cons, List.length_nil, Nat.reduceBEq, Nat.reduceAdd, Nat.reduceSub, ta, tb, tn0, tn1, tn2, tn3, tn4, tn5, tn6, tn7, tn8, tn9, tn10, tn11, tn12]
    rw [hP]
    refine ⟨hT.1, fun q => absurd q (lt_go hT'.2.1.1 (by omega) hi), fun _ => ?_⟩
    by_cases r0 : r = 0
    · subst r0
      refine p_bestNext (o := some i) (m := 0) hP hT' ho s6 r6 (Nat.le_refl _) hsm q2 (Or.inr rfl) ?_
      dsimp only [x_int, x_lng, x_ild, x_lld, x_ald, x_ist, x_ast, x_lst, x_inc, x_ii, x_id, x_i, x_ll, x_ld, x_l, x_cmp, x_i2l, x_l2i, x_if, x_ic, x_dup, x_pop, x_dup2, x_gI, x_gL, x_gR, x_g1, x_g0, x_gP, x_pI, x_pZ, x_pL, x_pP, x_al, x_as, x_all, x_asl, x_alr, x_len, x_cpy, x_m2, x_m1, x_m2l, x_m1l, x_call, x_cv, x_ri, x_rz, x_rl, x_rv, zg, zset, zbef, zlong, zcat, cond_true, cond_false, List.take, List.drop, rv1, rv2, rv3, rv4, rv5, rv6, rv7, sm0, sm1, bl0, bl1, bl2, bl3, bl4, bl5, bl6, bl7, bl8, List.nil_append, List.cons_append, List.length_cons, List.length_nil, Nat.reduceBEq, Nat.reduceAdd, Nat.reduceSub, ta, tb, tn0, tn1, tn2, tn3, tn4, tn5, tn6, tn7, tn8, tn9, tn10, tn11, tn12, zk_26, zl_26, bX6_weigh_45]
      rw [ix, n_cl (n := 0 * 6 + i) (by omega), n_succ i]
      exact ⟨fun _ => ⟨zz, fin 0 rfl _⟩, fun z => absurd rfl z⟩
    · have p0 : ¬ pop6 r = 0 := fun e => r0 (pop_0 r r6 e)
      obtain ⟨m, hm⟩ : ∃ m, pop6 r = m + 1 := ⟨pop6 r - 1, by omega⟩
      refine p_bestNext (o := some i) (m := m) hP hT' ho s6 r6 (Nat.le_refl _) hsm q2 (Or.inl hm) ?_
      obtain ⟨g, e1, g1, g2, g3⟩ := bn_ex (m := m) (o := some i) h6 hr p0
      rw [e1]
      dsimp only [x_int, x_lng, x_ild, x_lld, x_ald, x_ist, x_ast, x_lst, x_inc, x_ii, x_id, x_i, x_ll, x_ld, x_l, x_cmp, x_i2l, x_l2i, x_if, x_ic, x_dup, x_pop, x_dup2, x_gI, x_gL, x_gR, x_g1, x_g0, x_gP, x_pI, x_pZ, x_pL, x_pP, x_al, x_as, x_all, x_asl, x_alr, x_len, x_cpy, x_m2, x_m1, x_m2l, x_m1l, x_call, x_cv, x_ri, x_rz, x_rl, x_rv, zg, zset, zbef, zlong, zcat, cond_true, cond_false, List.take, List.drop, rv1, rv2, rv3, rv4, rv5, rv6, rv7, sm0, sm1, bl0, bl1, bl2, bl3, bl4, bl5, bl6, bl7, bl8, List.nil_append, List.cons_append, List.length_cons, List.length_nil, Nat.reduceBEq, Nat.reduceAdd, Nat.reduceSub, ta, tb, tn0, tn1, tn2, tn3, tn4, tn5, tn6, tn7, tn8, tn9, tn10, tn11, tn12, zk_26, zl_26, bX6_weigh_45, gtO]
      refine ⟨fun z => ?_, fun _ => p_costOf (o := some i) hP hT' ho g1 s6 r6 (Nat.le_refl _) hsm q2 hm g2 ?_⟩
      · have z : nI r = nI 0 := z
        rw [n_eq (by omega) (by omega)] at z
        exact absurd z r0
      · dsimp only [x_int, x_lng, x_ild, x_lld, x_ald, x_ist, x_ast, x_lst, x_inc, x_ii, x_id, x_i, x_ll, x_ld, x_l, x_cmp, x_i2l, x_l2i, x_if, x_ic, x_dup, x_pop, x_dup2, x_gI, x_gL, x_gR, x_g1, x_g0, x_gP, x_pI, x_pZ, x_pL, x_pP, x_al, x_as, x_all, x_asl, x_alr, x_len, x_cpy, x_m2, x_m1, x_m2l, x_m1l, x_call, x_cv, x_ri, x_rz, x_rl, x_rv, zg, zset, zbef, zlong, zcat, cond_true, cond_false, List.take, List.drop, rv1, rv2, rv3, rv4, rv5, rv6, rv7, sm0, sm1, bl0, bl1, bl2, bl3, bl4, bl5, bl6, bl7, bl8, List.nil_append, List.cons_append, List.length_cons, List.length_nil, Nat.reduceBEq, Nat.reduceAdd, Nat.reduceSub, ta, tb, tn0, tn1, tn2, tn3, tn4, tn5, tn6, tn7, tn8, tn9, tn10, tn11, tn12, zk_26, zl_26, bX6_weigh_45]
        rw [ix, n_cl (n := r * 6 + i) (by omega), n_succ i]
        refine ⟨zz, fin _ ?_ _⟩
        rw [hm, opt_some e1]
  · rintro Z M ⟨I', z3, rfl, rfl, q1, q2, q3⟩ self
    dsimp only [x_int, x_lng, x_ild, x_lld, x_ald, x_ist, x_ast, x_lst, x_inc, x_ii, x_id, x_i, x_ll, x_ld, x_l, x_cmp, x_i2l, x_l2i, x_if, x_ic, x_dup, x_pop, x_dup2, x_gI, x_gL, x_gR, x_g1, x_g0, x_gP, x_pI, x_pZ, x_pL, x_pP, x_al, x_as, x_all, x_asl, x_alr, x_len, x_cpy, x_m2, x_m1, x_m2l, x_m1l, x_call, x_cv, x_ri, x_rz, x_rl, x_rv, zg, zset, zbef, zlong, zcat, cond_true, cond_false, List.take, List.drop, rv1, rv2, rv3, rv4, rv5, rv6, rv7, sm0, sm1, bl0, bl1, bl2, bl3, bl4, bl5, bl6, bl7, bl8, List.nil_append, List.cons_append, List.length_cons, List.length_nil, Nat.reduceBEq, Nat.reduceAdd, Nat.reduceSub, ta, tb, tn0, tn1, tn2, tn3, tn4, tn5, tn6, tn7, tn8, tn9, tn10, tn11, tn12]
    rw [hP]
    refine ⟨hT.1, fun _ => hK I' q1 (fun r' hr' hs' l hl => ?_), fun q => absurd q (lt_out (fr26_CT q1 hT).2.1.1)⟩
    by_cases e : r' = r
    · subst e; exact q3 l hl
    · exact q2 r' (by omega) hs' l hl
/-- cells of the row -/
def frW (I I' : zI) : Prop := ∀ a b c, ¬ ((a = 25 ∨ a = 26 ∨ a = 6) ∧ b = 0) → I' a b c = I a b c
theorem frW_Q {I I' : zI} (h : frW I I') : frQ I I' := fun a b c q => h a b c (fun e => by
  rcases e.1 with e | e | e <;> · rw [e] at q; unfold scrC at q; simp at q)
theorem frW_CT {I I' : zI} {t : Nat} {T : aT} (h : frW I I') (hT : CT I t T) : CT I' t T := (frW_Q h).CT hT
theorem p_lay {K : zQ} {I : zI} {L : zJ} {P : zP} {T : aT} {t s : Nat} (hT : CT I t T) (hs : s < 2 ^ T.1 0) (hK : ∀ (I' : zI) (P' : zP), frW I I' → frP P P' → I' 6 0 3 = nI (G0 T s).length → I' 6 0 4 = nI (cstO T none (G0 T s)) → (∀ j, j < (G0 T s).length → I' 25 0 j = nI ((G0 T s).getD j 0)) → K [] (I', L, P')) : mX6_lay K [rwR, .inr (.inr (9, t)), .inl (nI s)] (I, L, P) := by
  have h6 := hT.h6
  have s6 := r64 hs h6
  show bX6_lay_0 K [some (.inr (.inr (6,0))), some (.inr (.inr (9,t))), some (.inl (nI s)), none, none, none, none] [] (I, L, P)
  unfold bX6_lay_0
  dsimp only [x_int, x_lng, x_ild, x_lld, x_ald, x_ist, x_ast, x_lst, x_inc, x_ii, x_id, x_i, x_ll, x_ld, x_l, x_cmp, x_i2l, x_l2i, x_if, x_ic, x_dup, x_pop, x_dup2, x_gI, x_gL, x_gR, x_g1, x_g0, x_gP, x_pI, x_pZ, x_pL, x_pP, x_al, x_as, x_all, x_asl, x_alr, x_len, x_cpy, x_m2, x_m1, x_m2l, x_m1l, x_call, x_cv, x_ri, x_rz, x_rl, x_rv, zg, zset, zbef, zlong, zcat, cond_true, cond_false, List.take, List.drop, rv1, rv2, rv3, rv4, rv5, rv6, rv7, sm0, sm1, bl0, bl1, bl2, bl3, bl4, bl5, bl6, bl7, bl8, List.nil_append, List.cons_append, List.length_cons, List.length_nil, Nat.reduceBEq, Nat.reduceAdd, Nat.reduceSub, ta, tb, tn0, tn1, tn2, tn3, tn4, tn5, tn6, tn7, tn8, tn9, tn10, tn11, tn12]
  obtain ⟨P1, eP, wP, fP⟩ := zsP_ex I L P 6 0 2 t
  try rw [show ((6 == 6) && (9 == 9)) = true from rfl, cond_true]
  rw [eP]
  have hfP : frP P P1 := fun x y z q1 q2 => fP x y z (fun e => q1 e.1)
  refine zinv s (fun r Z M => ∃ (I' : zI), Z = [some rwR, some (.inr (.inr (9, t))), some (.inl (nI s)), some (.inl (nI r)), none, none, none] ∧ M = (I', L, P1) ∧ fr1 26 I I' ∧ tab T I' s r) ?_ ?_ ⟨I, rfl, rfl, fun _ _ _ _ => rfl, fun r hr => by omega⟩
  · rintro r Z M hr ⟨I', rfl, rfl, q1, q2⟩ self hself
    dsimp only [x_int, x_lng, x_ild, x_lld, x_ald, x_ist, x_ast, x_lst, x_inc, x_ii, x_id, x_i, x_ll, x_ld, x_l, x_cmp, x_i2l, x_l2i, x_if, x_ic, x_dup, x_pop, x_dup2, x_gI, x_gL, x_gR, x_g1, x_g0, x_gP, x_pI, x_pZ, x_pL, x_pP, x_al, x_as, x_all, x_asl, x_alr, x_len, x_cpy, x_m2, x_m1, x_m2l, x_m1l, x_call, x_cv, x_ri, x_rz, x_rl, x_rv, zg, zset, zbef, zlong, zcat, cond_true, cond_false, List.take, List.drop, rv1, rv2, rv3, rv4, rv5, rv6, rv7, sm0, sm1, bl0, bl1, bl2, bl3, bl4, bl5, bl6, bl7, bl8, List.nil_append, List.cons_append, List.length_cons, List.length_nil, Nat.reduceBEq, Nat.reduceAdd, Nat.reduceSub, ta, tb, tn0, tn1, tn2, tn3, tn4, tn5, tn6, tn7, tn8, tn9, tn10, tn11, tn12, bX6_lay_25]
    rw [n_succ r]
    refine ⟨fun q => absurd q (lt_go (n := s) rfl (by omega) hr), fun _ => ⟨fun c => ?_, fun c => ?_⟩⟩
    · refine p_weigh (s := s) wP (fr26_CT q1 hT) s6 (by omega) (by omega) c q2 (fun I2 r1 r2 => ?_)
      dsimp only [x_int, x_lng, x_ild, x_lld, x_ald, x_ist, x_ast, x_lst, x_inc, x_ii, x_id, x_i, x_ll, x_ld, x_l, x_cmp, x_i2l, x_l2i, x_if, x_ic, x_dup, x_pop, x_dup2, x_gI, x_gL, x_gR, x_g1, x_g0, x_gP, x_pI, x_pZ, x_pL, x_pP, x_al, x_as, x_all, x_asl, x_alr, x_len, x_cpy, x_m2, x_m1, x_m2l, x_m1l, x_call, x_cv, x_ri, x_rz, x_rl, x_rv, zg, zset, zbef, zlong, zcat, cond_true, cond_false, List.take, List.drop, rv1, rv2, rv3, rv4, rv5, rv6, rv7, sm0, sm1, bl0, bl1, bl2, bl3, bl4, bl5, bl6, bl7, bl8, List.nil_append, List.cons_append, List.length_cons, List.length_nil, Nat.reduceBEq, Nat.reduceAdd, Nat.reduceSub, ta, tb, tn0, tn1, tn2, tn3, tn4, tn5, tn6, tn7, tn8, tn9, tn10, tn11, tn12, bX6_lay_25]
      try rw [n_succ r]
      exact hself _ _ ⟨I2, rfl, rfl, fun a b c q => (r1 a b c q).trans (q1 a b c q), r2⟩
    · refine hself _ _ ⟨I', rfl, rfl, q1, fun r' hr' hs' l hl => ?_⟩
      by_cases e : r' = r
      · subst e; exact absurd hs' c
      · exact q2 r' (by omega) hs' l hl
  · rintro Z M ⟨I', rfl, rfl, q1, q2⟩ self
    dsimp only [x_int, x_lng, x_ild, x_lld, x_ald, x_ist, x_ast, x_lst, x_inc, x_ii, x_id, x_i, x_ll, x_ld, x_l, x_cmp, x_i2l, x_l2i, x_if, x_ic, x_dup, x_pop, x_dup2, x_gI, x_gL, x_gR, x_g1, x_g0, x_gP, x_pI, x_pZ, x_pL, x_pP, x_al, x_as, x_all, x_asl, x_alr, x_len, x_cpy, x_m2, x_m1, x_m2l, x_m1l, x_call, x_cv, x_ri, x_rz, x_rl, x_rv, zg, zset, zbef, zlong, zcat, cond_true, cond_false, List.take, List.drop, rv1, rv2, rv3, rv4, rv5, rv6, rv7, sm0, sm1, bl0, bl1, bl2, bl3, bl4, bl5, bl6, bl7, bl8, List.nil_append, List.cons_append, List.length_cons, List.length_nil, Nat.reduceBEq, Nat.reduceAdd, Nat.reduceSub, ta, tb, tn0, tn1, tn2, tn3, tn4, tn5, tn6, tn7, tn8, tn9, tn10, tn11, tn12]
    refine ⟨fun _ => ?_, fun q => absurd q (lt_out (n := s) rfl)⟩
    obtain ⟨I2, e2, w2, f2⟩ := zsI_ex I' L P1 6 0 3 0
    rw [e2]
    obtain ⟨I3, e3, w3, f3⟩ := zsI_ex I2 L P1 6 0 4 0
    rw [e3]
    have hW : frW I I3 := fun a b c q => ((f3 a b c (fun e => q ⟨Or.inr (Or.inr e.1), e.2.1⟩)).trans (f2 a b c (fun e => q ⟨Or.inr (Or.inr e.1), e.2.1⟩))).trans (q1 a b c (fun e => q ⟨Or.inr (Or.inl e.1), e.2⟩))
    have ht3 : tab T I3 s s := fun r hr hs l hl => by
      rw [f3 26 0 _ (by omega), f2 26 0 _ (by omega)]; exact q2 r hr hs l hl
    have done : ∀ (I' : zI) (pre : List Nat) (o : Option Nat) (i : Nat), frW I I' → G0 T s = pre ++ grd T (pop6 0) 0 o → pre.length = i → I' 6 0 3 = nI i → (∀ v : Nat, I' 6 0 4 = nI v → v + cstO T o (grd T (pop6 0) 0 o) = cstO T none (G0 T s) → (∀ j, j < i → I' 25 0 j = nI (pre.getD j 0)) → K [] (I', L, P1)) := fun I' pre o i h1 h2 h3 h4 v h5 h7 h8 => by
      have e0 : grd T (pop6 0) 0 o = [] := rfl
      rw [e0, List.append_nil] at h2
      rw [e0] at h7
      have h7 : v = cstO T none (G0 T s) := h7
      exact hK I' P1 h1 hfP (by rw [h2, h3]; exact h4) (by rw [← h7]; exact h5) (by rw [h2, h3]; exact h8)
    refine zinv 6 (fun i Z M => ∃ (I' : zI) (z6 : Option zV) (pre : List Nat) (r v : Nat) (o : Option Nat), Z = [some rwR, some (.inr (.inr (9, t))), some (.inl (nI s)), some (.inl (nI r)), some (.inl (wbR o)), some (.inl (nI i)), z6] ∧ M = (I', L, P1) ∧ frW I I' ∧ tab T I' s s ∧ r < 64 ∧ r ≤ s ∧ subm r s ∧ (∀ a, o = some a → a < T.1 0) ∧ G0 T s = pre ++ grd T (pop6 r) r o ∧ pre.length = i ∧ I' 6 0 3 = nI i ∧ I' 6 0 4 = nI v ∧ v + cstO T o (grd T (pop6 r) r o) = cstO T none (G0 T s) ∧ (∀ j, j < i → I' 25 0 j = nI (pre.getD j 0)) ∧ pop6 r + i = pop6 s) ?_ ?_ ⟨I3, none, [], s, 0, none, rfl, rfl, hW, ht3, s6, Nat.le_refl _, subm_r s s6, (fun a e => by cases e), rfl, rfl, (f3 6 0 3 (by decide)).trans w2, w3, Nat.zero_add _, (fun j hj => by omega), rfl⟩
    · rintro i Z M hi ⟨I4, z6, pre, r, v, o, rfl, rfl, a1, a2, a3, a4, a5, a6, a7, a8, a9, a10, a11, a12, a13⟩ self hself
      have hT4 := frW_CT a1 hT
      dsimp only [x_int, x_lng, x_ild, x_lld, x_ald, x_ist, x_ast, x_lst, x_inc, x_ii, x_id, x_i, x_ll, x_ld, x_l, x_cmp, x_i2l, x_l2i, x_if, x_ic, x_dup, x_pop, x_dup2, x_gI, x_gL, x_gR, x_g1, x_g0, x_gP, x_pI, x_pZ, x_pL, x_pP, x_al, x_as, x_all, x_asl, x_alr, x_len, x_cpy, x_m2, x_m1, x_m2l, x_m1l, x_call, x_cv, x_ri, x_rz, x_rl, x_rv, zg, zset, zbef, zlong, zcat, cond_true, cond_false, List.take, List.drop, rv1, rv2, rv3, rv4, rv5, rv6, rv7, sm0, sm1, bl0, bl1, bl2, bl3, bl4, bl5, bl6, bl7, bl8, List.nil_append, List.cons_append, List.length_cons, List.length_nil, Nat.reduceBEq, Nat.reduceAdd, Nat.reduceSub, ta, tb, tn0, tn1, tn2, tn3, tn4, tn5, tn6, tn7, tn8, tn9, tn10, tn11, tn12, bX6_lay_132]
      refine ⟨fun q => absurd q (lt_go (n := 6) rfl (by omega) hi), fun _ => ⟨fun z => ?_, fun z => ?_⟩⟩
      · have z : nI r = nI 0 := z
        rw [n_eq (by omega) (by omega)] at z
        subst z
        exact done I4 pre o i a1 a7 a8 a9 v a10 a11 a12
      · have z : ¬ nI r = nI 0 := z
        rw [n_eq (by omega) (by omega)] at z
        have p0 : ¬ pop6 r = 0 := fun e => z (pop_0 r a3 e)
        obtain ⟨m, hm⟩ : ∃ m, pop6 r = m + 1 := ⟨pop6 r - 1, by omega⟩
        refine p_bestNext (s := s) (B := s) (m := m) wP hT4 a6 s6 a3 a4 a5 a2 (Or.inl hm) ?_
        obtain ⟨g, e1, g1, g2, g3⟩ := bn_ex (m := m) (o := o) h6 (Nat.lt_of_le_of_lt a4 hs) p0
        rw [e1]
        dsimp only [x_int, x_lng, x_ild, x_lld, x_ald, x_ist, x_ast, x_lst, x_inc, x_ii, x_id, x_i, x_ll, x_ld, x_l, x_cmp, x_i2l, x_l2i, x_if, x_ic, x_dup, x_pop, x_dup2, x_gI, x_gL, x_gR, x_g1, x_g0, x_gP, x_pI, x_pZ, x_pL, x_pP, x_al, x_as, x_all, x_asl, x_alr, x_len, x_cpy, x_m2, x_m1, x_m2l, x_m1l, x_call, x_cv, x_ri, x_rz, x_rl, x_rv, zg, zset, zbef, zlong, zcat, cond_true, cond_false, List.take, List.drop, rv1, rv2, rv3, rv4, rv5, rv6, rv7, sm0, sm1, bl0, bl1, bl2, bl3, bl4, bl5, bl6, bl7, bl8, List.nil_append, List.cons_append, List.length_cons, List.length_nil, Nat.reduceBEq, Nat.reduceAdd, Nat.reduceSub, ta, tb, tn0, tn1, tn2, tn3, tn4, tn5, tn6, tn7, tn8, tn9, tn10, tn11, tn12, gtO]
        refine p_isMasked wP hT4 a6 g1 ?_
        have pe := pop_sub r a3 g (by omega) g2
        rw [hm, grd_some e1] at a7 a11
        have a11 : v + (mkO T o g + cstO T (some g) (grd T m (r - 2 ^ g) (some g))) = cstO T none (G0 T s) := a11
        have m1 := mkO_1 T o g
        have vs : v ≤ 6 := by
          have := cstO_le T (G0 T s) none
          have : pop6 s = (G0 T s).length := rof_pop s6 (grd_ok (o := none) h6 hs rfl).1
          have := pop_6 s
          omega
        have fin : ∀ w : Int32, w = nI (mkO T o g) → bX6_lay_90 K self [some rwR, some (.inr (.inr (9, t))), some (.inl (nI s)), some (.inl (nI r)), some (.inl (wbR o)), some (.inl (nI i)), some (.inl (nI g))] [.inl w, .inl (I4 6 0 4), rwR] (I4, L, P1) := fun w hw => by
          unfold bX6_lay_90
          dsimp only [x_int, x_lng, x_ild, x_lld, x_ald, x_ist, x_ast, x_lst, x_inc, x_ii, x_id, x_i, x_ll, x_ld, x_l, x_cmp, x_i2l, x_l2i, x_if, x_ic, x_dup, x_pop, x_dup2, x_gI, x_gL, x_gR, x_g1, x_g0, x_gP, x_pI, x_pZ, x_pL, x_pP, x_al, x_as, x_all, x_asl, x_alr, x_len, x_cpy, x_m2, x_m1, x_m2l, x_m1l, x_call, x_cv, x_ri, x_rz, x_rl, x_rv, zg, zset, zbef, zlong, zcat, cond_true, cond_false, List.take, List.drop, rv1, rv2, rv3, rv4, rv5, rv6, rv7, sm0, sm1, bl0, bl1, bl2, bl3, bl4, bl5, bl6, bl7, bl8, List.nil_append, List.cons_append, List.length_cons, List.length_nil, Nat.reduceBEq, Nat.reduceAdd, Nat.reduceSub, ta, tb, tn0, tn1, tn2, tn3, tn4, tn5, tn6, tn7, tn8, tn9, tn10, tn11, tn12, zk_25, zl_25]
          rw [hw, a10, n_add, n_cl (n := i) (by omega), lft r a3 g (by omega) g2, n_succ i]
          obtain ⟨I5, e5, w5, f5⟩ := zsI_ex I4 L P1 6 0 4 (nI (v + mkO T o g))
          rw [e5]
          obtain ⟨I6, e6, w6, f6⟩ := zsI_ex I5 L P1 25 0 i (nI g)
          rw [e6]
          dsimp only [x_int, x_lng, x_ild, x_lld, x_ald, x_ist, x_ast, x_lst, x_inc, x_ii, x_id, x_i, x_ll, x_ld, x_l, x_cmp, x_i2l, x_l2i, x_if, x_ic, x_dup, x_pop, x_dup2, x_gI, x_gL, x_gR, x_g1, x_g0, x_gP, x_pI, x_pZ, x_pL, x_pP, x_al, x_as, x_all, x_asl, x_alr, x_len, x_cpy, x_m2, x_m1, x_m2l, x_m1l, x_call, x_cv, x_ri, x_rz, x_rl, x_rv, zg, zset, zbef, zlong, zcat, cond_true, cond_false, List.take, List.drop, rv1, rv2, rv3, rv4, rv5, rv6, rv7, sm0, sm1, bl0, bl1, bl2, bl3, bl4, bl5, bl6, bl7, bl8, List.nil_append, List.cons_append, List.length_cons, List.length_nil, Nat.reduceBEq, Nat.reduceAdd, Nat.reduceSub, ta, tb, tn0, tn1, tn2, tn3, tn4, tn5, tn6, tn7, tn8, tn9, tn10, tn11, tn12]
          rw [f6 6 0 _ (by omega), f5 6 0 _ (by decide), a9, n_succ i]
          obtain ⟨I7, e7, w7, f7⟩ := zsI_ex I6 L P1 6 0 3 (nI (i + 1))
          rw [e7]
          refine ⟨n_zin hi (by decide), hself _ _ ⟨I7, _, pre ++ [g], r - 2 ^ g, v + mkO T o g, some g, rfl, rfl, fun a b c q => ?_, fun r' hr' hs' l hl => ?_, sl a3, ?_, subm_s s s6 r a3 a5 g (by omega) g2, (fun a e => by cases e; exact g1), ?_, ?_, w7, ?_, ?_, fun j hj => ?_, by omega⟩⟩
          · rw [f7 a b c (fun e => q ⟨Or.inr (Or.inr e.1), e.2.1⟩), f6 a b c (fun e => q ⟨Or.inl e.1, e.2.1⟩), f5 a b c (fun e => q ⟨Or.inr (Or.inr e.1), e.2.1⟩)]
            exact a1 a b c q
          · rw [f7 26 0 _ (by omega), f6 26 0 _ (by omega), f5 26 0 _ (by omega)]
            exact a2 r' hr' hs' l hl
          · exact Nat.le_trans (Nat.sub_le _ _) a4
          · rw [show pop6 (r - 2 ^ g) = m by omega, a7, List.append_assoc]; rfl
          · rw [List.length_append, a8]; rfl
          · rw [f7 6 0 _ (by decide), f6 6 0 _ (by omega)]; exact w5
          · rw [show pop6 (r - 2 ^ g) = m by omega]; omega
          · rw [f7 25 0 _ (by omega)]
            by_cases e : j = i
            · subst e
              rw [w6, List.getD_eq_getElem?_getD, List.getElem?_append_right (by omega), a8, Nat.sub_self]; rfl
            · rw [f6 25 0 j (fun q => e q.2.2), f5 25 0 j (by omega), a12 j (by omega)]
              rw [List.getD_eq_getElem?_getD, List.getD_eq_getElem?_getD, List.getElem?_append_left (by omega)]
        dsimp only [x_int, x_lng, x_ild, x_lld, x_ald, x_ist, x_ast, x_lst, x_inc, x_ii, x_id, x_i, x_ll, x_ld, x_l, x_cmp, x_i2l, x_l2i, x_if, x_ic, x_dup, x_pop, x_dup2, x_gI, x_gL, x_gR, x_g1, x_g0, x_gP, x_pI, x_pZ, x_pL, x_pP, x_al, x_as, x_all, x_asl, x_alr, x_len, x_cpy, x_m2, x_m1, x_m2l, x_m1l, x_call, x_cv, x_ri, x_rz, x_rl, x_rv, zg, zset, zbef, zlong, zcat, cond_true, cond_false, List.take, List.drop, rv1, rv2, rv3, rv4, rv5, rv6, rv7, sm0, sm1, bl0, bl1, bl2, bl3, bl4, bl5, bl6, bl7, bl8, List.nil_append, List.cons_append, List.length_cons, List.length_nil, Nat.reduceBEq, Nat.reduceAdd, Nat.reduceSub, ta, tb, tn0, tn1, tn2, tn3, tn4, tn5, tn6, tn7, tn8, tn9, tn10, tn11, tn12]
        refine ⟨fun z => fin 0 ?_, fun z => fin 1 ?_⟩
        · exact (show nI (mkO T o g) = 0 from z).symm
        · have z : ¬ nI (mkO T o g) = nI 0 := z
          rw [n_eq (by omega) (by omega)] at z
          rw [show mkO T o g = 1 by omega]; rfl
    · rintro Z M ⟨I4, z6, pre, r, v, o, rfl, rfl, a1, a2, a3, a4, a5, a6, a7, a8, a9, a10, a11, a12, a13⟩ self
      have p6 := pop_6 s
      have r0 := pop_0 r a3 (by omega)
      subst r0
      dsimp only [x_int, x_lng, x_ild, x_lld, x_ald, x_ist, x_ast, x_lst, x_inc, x_ii, x_id, x_i, x_ll, x_ld, x_l, x_cmp, x_i2l, x_l2i, x_if, x_ic, x_dup, x_pop, x_dup2, x_gI, x_gL, x_gR, x_g1, x_g0, x_gP, x_pI, x_pZ, x_pL, x_pP, x_al, x_as, x_all, x_asl, x_alr, x_len, x_cpy, x_m2, x_m1, x_m2l, x_m1l, x_call, x_cv, x_ri, x_rz, x_rl, x_rv, zg, zset, zbef, zlong, zcat, cond_true, cond_false, List.take, List.drop, rv1, rv2, rv3, rv4, rv5, rv6, rv7, sm0, sm1, bl0, bl1, bl2, bl3, bl4, bl5, bl6, bl7, bl8, List.nil_append, List.cons_append, List.length_cons, List.length_nil, Nat.reduceBEq, Nat.reduceAdd, Nat.reduceSub, ta, tb, tn0, tn1, tn2, tn3, tn4, tn5, tn6, tn7, tn8, tn9, tn10, tn11, tn12, bX6_lay_132]
      exact ⟨fun _ => done I4 pre o 6 a1 a7 a8 a9 v a10 a11 a12, fun q => absurd q (lt_out (n := 6) rfl)⟩
theorem sh1 : ∀ n, n < 7 → 1 <<< (nI n &&& 31) = nI (2 ^ n) := by decide
abbrev okRw (A : aA) (s x : Int32) : Prop := okN (2 ^ A.T.1 0) s ∧ okI x 0 6
def v_joint (A : aA) (s x : Int32) : Int32 := if okRw A s x then (if x = 6 then nI (cstO A.T none (G0 A.T s.toNatClampNeg)) else if x < nI (G0 A.T s.toNatClampNeg).length then nI ((G0 A.T s.toNatClampNeg).getD x.toNatClampNeg 0) else -2) else -1
theorem G0_len {T : aT} {s : Nat} (h6 : T.1 0 ≤ 6) (hs : s < 2 ^ T.1 0) : (G0 T s).length = pop6 s := (rof_pop (r64 hs h6) (grd_ok (o := none) h6 hs rfl).1).symm
theorem c_joint {K : zQ} {I : zI} {L : zJ} {P : zP} {A : aA} {s x : Int32} (hC : RC A I P) (hK : ∀ (I' : zI) (P' : zP), frQ I I' → frP P P' → K [.inl (v_joint A s x)] (I', L, P')) : mX11_joint K [kbR, .inl s, .inl x] (I, L, P) := by
  obtain ⟨t, hT, h11, h8, hS⟩ := hC.b
  have h6 := hT.h6
  have bad : ¬ okRw A s x → K [.inl (-1)] (I, L, P) := fun z => by
    have hk := hK I P frQ.rf frP.rf
    unfold v_joint at hk
    rw [if_neg z] at hk; exact hk
  show bX11_joint_0 K [some (.inr (.inr (11,0))), some (.inl s), some (.inl x)] [] (I, L, P)
  unfold bX11_joint_0
  dsimp only [x_int, x_lng, x_ild, x_lld, x_ald, x_ist, x_ast, x_lst, x_inc, x_ii, x_id, x_i, x_ll, x_ld, x_l, x_cmp, x_i2l, x_l2i, x_if, x_ic, x_dup, x_pop, x_dup2, x_gI, x_gL, x_gR, x_g1, x_g0, x_gP, x_pI, x_pZ, x_pL, x_pP, x_al, x_as, x_all, x_asl, x_alr, x_len, x_cpy, x_m2, x_m1, x_m2l, x_m1l, x_call, x_cv, x_ri, x_rz, x_rl, x_rv, zg, zset, zbef, zlong, zcat, cond_true, cond_false, List.take, List.drop, rv1, rv2, rv3, rv4, rv5, rv6, rv7, sm0, sm1, bl0, bl1, bl2, bl3, bl4, bl5, bl6, bl7, bl8, List.nil_append, List.cons_append, List.length_cons, List.length_nil, Nat.reduceBEq, Nat.reduceAdd, Nat.reduceSub, ta, tb, tn0, tn1, tn2, tn3, tn4, tn5, tn6, tn7, tn8, tn9, tn10, tn11, tn12, bX11_joint_27]
  rw [h11, hT.2.1.1, sh1 _ (by omega)]
  refine ⟨fun c => bad (fun z => Int32.not_lt.mpr z.1.1 c), fun c1 => ⟨hT.1, fun c => bad (fun z => Int32.not_lt.mpr c z.1.2), fun c2 => ⟨fun c => bad (fun z => Int32.not_lt.mpr z.2.1 c), fun c3 => ⟨fun c4 => ?_, fun c => bad (fun z => c z.2.2)⟩⟩⟩⟩
  have good : okRw A s x := ⟨⟨Int32.not_lt.mp c1, Int32.not_le.mp c2⟩, Int32.not_lt.mp c3, c4⟩
  unfold v_joint at hK
  rw [if_pos good] at hK
  have two : 2 ^ A.T.1 0 ≤ 64 := Nat.pow_le_pow_right (n := 2) (by decide) h6
  obtain ⟨y, rfl, hy⟩ := ok_of (by omega) good.1
  rw [n_cl (n := y) (by omega)] at hK
  refine ⟨hT.1, p_lay hT hy (fun I' P' q1 q2 r1 r2 r3 => ?_)⟩
  have hk := hK I' P' (frW_Q q1) q2
  have ln := G0_len h6 hy
  have p6 := pop_6 y
  dsimp only [x_int, x_lng, x_ild, x_lld, x_ald, x_ist, x_ast, x_lst, x_inc, x_ii, x_id, x_i, x_ll, x_ld, x_l, x_cmp, x_i2l, x_l2i, x_if, x_ic, x_dup, x_pop, x_dup2, x_gI, x_gL, x_gR, x_g1, x_g0, x_gP, x_pI, x_pZ, x_pL, x_pP, x_al, x_as, x_all, x_asl, x_alr, x_len, x_cpy, x_m2, x_m1, x_m2l, x_m1l, x_call, x_cv, x_ri, x_rz, x_rl, x_rv, zg, zset, zbef, zlong, zcat, cond_true, cond_false, List.take, List.drop, rv1, rv2, rv3, rv4, rv5, rv6, rv7, sm0, sm1, bl0, bl1, bl2, bl3, bl4, bl5, bl6, bl7, bl8, List.nil_append, List.cons_append, List.length_cons, List.length_nil, Nat.reduceBEq, Nat.reduceAdd, Nat.reduceSub, ta, tb, tn0, tn1, tn2, tn3, tn4, tn5, tn6, tn7, tn8, tn9, tn10, tn11, tn12, zk_25, zl_25, bX11_joint_80]
  rw [r1, r2]
  refine ⟨fun e => ?_, fun e => ⟨fun d => ?_, fun d => ?_⟩⟩
  · rw [if_pos e] at hk; exact hk
  · have d : nI (G0 A.T y).length ≤ x := d
    rw [if_neg e, if_neg (Int32.not_lt.mpr d)] at hk; exact hk
  · have d : ¬ nI (G0 A.T y).length ≤ x := d
    obtain ⟨w, rfl, hw⟩ := n_of (n := (G0 A.T y).length) (by omega) good.2.1 (Int32.not_le.mp d)
    rw [if_neg e, if_pos (Int32.not_le.mp d), n_cl (n := w) (by omega)] at hk
    refine ⟨n_zin (by omega) (by decide), ?_⟩
    rw [n_cl (n := w) (by omega), r3 w hw]
    exact hk
