def bsB (p : Nat → Bool) : Nat → Nat
  | 0 => 0
  | n + 1 => bsB p n + (if p n = true then 2 ^ n else 0)
theorem bsB_lt (p : Nat → Bool) (n : Nat) : bsB p n < 2 ^ n := by
  induction n with
  | zero => exact Nat.one_pos
  | succ n ih =>
    show bsB p n + _ < _
    rw [Nat.pow_succ]
    split <;> omega
theorem bsB_sum (f : Nat → Int32) (n : Nat) : bsum f n = bsB (fun r => decide (f r = 1)) n := by
  induction n with
  | zero => rfl
  | succ n ih =>
    show bsum f n + _ = bsB _ n + _
    rw [ih]
    by_cases h : f n = 1 <;> simp [h]
theorem bsB_congr {p q : Nat → Bool} {n : Nat} (h : ∀ i, i < n → p i = q i) : bsB p n = bsB q n := by
  induction n with
  | zero => rfl
  | succ n ih =>
    show bsB p n + _ = bsB q n + _
    rw [ih (fun i hi => h i (by omega)), h n (by omega)]
theorem bsB_bit (p : Nat → Bool) (n r : Nat) : (bsB p n).testBit r = (decide (r < n) && p r) := by
  have e : bsB p n = bsum (fun r => if p r = true then 1 else 0) n := by
    rw [bsB_sum]
    exact bsB_congr (fun i _ => by by_cases h : p i = true <;> simp [h])
  rw [e, bsum_bit]
  by_cases h : p r = true <;> by_cases h2 : r < n <;> simp [h, h2]
theorem bsB_or (p : Nat → Bool) {i : Nat} (hi : i < 10) : nI (bsB p i) ||| (1 <<< (nI i &&& 31)) = nI (bsB p i + 2 ^ i) :=
  bits2 _ (Nat.lt_of_lt_of_le (bsB_lt p i) (show 2 ^ i ≤ 2 ^ 10 from Nat.pow_le_pow_right (by decide) (by omega))) i hi (Nat.testBit_lt_two_pow (bsB_lt p i))
-- how many bits
def bcf (x : Int32) : Int32 :=
  let a := x - ((x.toUInt32 >>> ((1 : Int32).toUInt32 &&& 31)).toInt32 &&& 1431655765)
  let b := (a &&& 858993459) + ((a.toUInt32 >>> ((2 : Int32).toUInt32 &&& 31)).toInt32 &&& 858993459)
  let c := (b + (b.toUInt32 >>> ((4 : Int32).toUInt32 &&& 31)).toInt32) &&& 252645135
  let d := c + (c.toUInt32 >>> ((8 : Int32).toUInt32 &&& 31)).toInt32
  (d + (d.toUInt32 >>> ((16 : Int32).toUInt32 &&& 31)).toInt32) &&& 63
theorem bc10 : ∀ m, m < 1024 → bcf (nI m) = nI (zcount (fun i => m.testBit i) 10) := by decide +kernel
theorem zcount_cut {p : Nat → Bool} {n : Nat} : ∀ k, zcount (fun i => decide (i < n) && p i) (n + k) = zcount p n := by
  intro k
  induction k with
  | zero => exact zcount_congr (fun i hi => by have hi : i < n := hi; simp [hi])
  | succ k ih =>
    show zcount _ (n + k) + _ = _
    rw [ih]
    have : ¬ n + k < n := by omega
    simp [this]
theorem bsB_pop (p : Nat → Bool) {n : Nat} (hn : n ≤ 10) : bcf (nI (bsB p n)) = nI (zcount p n) := by
  rw [bc10 _ (Nat.lt_of_lt_of_le (bsB_lt p n) (Nat.pow_le_pow_right (by decide) hn))]
  congr 1
  have e : (fun i => (bsB p n).testBit i) = fun i => decide (i < n) && p i := by funext i; exact bsB_bit p n i
  rw [e, show (10 : Nat) = n + (10 - n) by omega]
  exact zcount_cut _
theorem p_bitCount {K : zQ} {M : zM} {x : Int32} (hK : K [.inl (bcf x)] M) : mJ6_bitCount_0f7a4 K [.inl x] M := hK
theorem p_manyBoundTo {K : zQ} {I : zI} {L : zJ} {P : zP} {j t : Nat} {T : aT} {S : aS} {w : Int32} (ht : P 8 j 0 = t) (hT : CT I t T) (hS : CS I j T S) (hK : K [.inl (nI (zcount (fun r => decide (S 6 r = w)) (T.1 2)))] (I, L, P)) : mX8_manyBoundTo K [.inr (.inr (8, j)), .inl w] (I, L, P) := by
  have r10 := hT.r10
  show bX8_manyBoundTo_4 K [some (.inr (.inr (8, j))), some (.inl w), some (.inl 0), some (.inl 0)] [] (I, L, P)
  refine zfor (T.1 2) (fun i => [some (.inr (.inr (8, j))), some (.inl w), some (.inl (nI (zcount (fun r => decide (S 6 r = w)) i))), some (.inl (nI i))]) (fun _ => (I, L, P)) (fun i hi self hs => ?_) (fun self => ?_)
  · have up : (S 6 i = w) → self [some (.inr (.inr (8, j))), some (.inl w), some (.inl (nI (zcount (fun r => decide (S 6 r = w)) i) + 1)), some (.inl (nI (i + 1)))] [] (I, L, P) := fun c => by
      have e : zcount (fun r => decide (S 6 r = w)) (i + 1) = zcount (fun r => decide (S 6 r = w)) i + 1 := by
        show _ + (if decide (S 6 i = w) = true then 1 else 0) = _
        rw [if_pos (decide_eq_true c)]
      rw [n_succ, ← e]; exact hs
    have no : ¬ (S 6 i = w) → self [some (.inr (.inr (8, j))), some (.inl w), some (.inl (nI (zcount (fun r => decide (S 6 r = w)) i) + 0)), some (.inl (nI (i + 1)))] [] (I, L, P) := fun c => by
      have e : zcount (fun r => decide (S 6 r = w)) (i + 1) = zcount (fun r => decide (S 6 r = w)) i := by
        show _ + (if decide (S 6 i = w) = true then 1 else 0) = _
        rw [if_neg (fun q => c (of_decide_eq_true q))]
        rfl
      rw [e] at hs
      rw [show nI (zcount (fun r => decide (S 6 r = w)) i) + 0 = nI (zcount (fun r => decide (S 6 r = w)) i) from Int32.add_zero _]
      exact hs
    dsimp only [x_int, x_lng, x_ild, x_lld, x_ald, x_ist, x_ast, x_lst, x_inc, x_ii, x_id, x_i, x_ll, x_ld, x_l, x_cmp, x_i2l, x_l2i, x_if, x_ic, x_dup, x_pop, x_dup2, x_gI, x_gL, x_gR, x_g1, x_g0, x_gP, x_pI, x_pZ, x_pL, x_pP, x_al, x_as, x_all, x_asl, x_alr, x_len, x_cpy, x_m2, x_m1, x_m2l, x_m1l, x_call, x_cv, x_ri, x_rz, x_rl, x_rv, zg, zset, zbef, zlong, zcat, cond_true, cond_false, List.take, List.drop, rv1, rv2, rv3, rv4, rv5, rv6, rv7, sm0, sm1, bl0, bl1, bl2, bl3, bl4, bl5, bl6, bl7, bl8, List.nil_append, List.cons_append, List.length_cons, List.length_nil, Nat.reduceBEq, Nat.reduceAdd, Nat.reduceSub, ta, tb, tn0, tn1, tn2, tn3, tn4, tn5, tn6, tn7, tn8, tn9, tn10, tn11, tn12, zk_39, zl_39, bX8_manyBoundTo_31]
    rw [ht, n_cl (by omega), (hS.2.2.1 i hi).2.2.2.1, n_succ i]
    exact ⟨hT.1, fun c => absurd c (lt_go hT.2.1.2.2 (by omega) hi), fun _ => ⟨n_zin (by omega) (by decide), up, no⟩⟩
  · dsimp only [x_int, x_lng, x_ild, x_lld, x_ald, x_ist, x_ast, x_lst, x_inc, x_ii, x_id, x_i, x_ll, x_ld, x_l, x_cmp, x_i2l, x_l2i, x_if, x_ic, x_dup, x_pop, x_dup2, x_gI, x_gL, x_gR, x_g1, x_g0, x_gP, x_pI, x_pZ, x_pL, x_pP, x_al, x_as, x_all, x_asl, x_alr, x_len, x_cpy, x_m2, x_m1, x_m2l, x_m1l, x_call, x_cv, x_ri, x_rz, x_rl, x_rv, zg, zset, zbef, zlong, zcat, cond_true, cond_false, List.take, List.drop, rv1, rv2, rv3, rv4, rv5, rv6, rv7, sm0, sm1, bl0, bl1, bl2, bl3, bl4, bl5, bl6, bl7, bl8, List.nil_append, List.cons_append, List.length_cons, List.length_nil, Nat.reduceBEq, Nat.reduceAdd, Nat.reduceSub, ta, tb, tn0, tn1, tn2, tn3, tn4, tn5, tn6, tn7, tn8, tn9, tn10, tn11, tn12]
    rw [ht]
    exact ⟨hT.1, fun _ => hK, fun c => absurd c (lt_out hT.2.1.2.2)⟩
def aFresh (S : aS) (w : Int32) (r : Nat) : Bool := decide (¬ S 5 r = 0 ∧ ¬ S 7 r = 1 ∧ S 3 r = w)
theorem p_freshOn {K : zQ} {I : zI} {L : zJ} {P : zP} {j t : Nat} {T : aT} {S : aS} {w : Int32} (ht : P 8 j 0 = t) (hT : CT I t T) (hS : CS I j T S) (hK : K [.inl (nI (bsB (aFresh S w) (T.1 2)))] (I, L, P)) : mX8_freshOn K [.inr (.inr (8, j)), .inl w] (I, L, P) := by
  have r10 := hT.r10
  show bX8_freshOn_4 K [some (.inr (.inr (8, j))), some (.inl w), some (.inl 0), some (.inl 0), none] [] (I, L, P)
  refine zinv (T.1 2) (fun i Z M => ∃ z4 : Option zV, Z = [some (.inr (.inr (8, j))), some (.inl w), some (.inl (nI (bsB (aFresh S w) i))), some (.inl (nI i)), z4] ∧ M = (I, L, P)) ?_ ?_ ⟨none, rfl, rfl⟩
  · rintro i Z M hi ⟨z4, rfl, rfl⟩ self hself
    have go : ∀ (m : Nat) (z4 : Option zV), m = bsB (aFresh S w) (i + 1) → self [some (.inr (.inr (8, j))), some (.inl w), some (.inl (nI m)), some (.inl (nI (i + 1))), z4] [] (I, L, P) := fun m z4 e => hself _ _ ⟨z4, by rw [e], rfl⟩
    have up : ¬ S 5 i = 0 ∧ ¬ S 7 i = 1 ∧ S 3 i = w → self [some (.inr (.inr (8, j))), some (.inl w), some (.inl (nI (bsB (aFresh S w) i) ||| (1 <<< (nI i &&& 31)))), some (.inl (nI (i + 1))), some (.inl 1)] [] (I, L, P) := fun c => by
      rw [bsB_or _ (by omega)]
      exact go _ _ (by show _ = _ + (if aFresh S w i = true then 2 ^ i else 0); rw [if_pos (show aFresh S w i = true from decide_eq_true c)])
    have no : ¬ (¬ S 5 i = 0 ∧ ¬ S 7 i = 1 ∧ S 3 i = w) → self [some (.inr (.inr (8, j))), some (.inl w), some (.inl (nI (bsB (aFresh S w) i) ||| 0)), some (.inl (nI (i + 1))), some (.inl 0)] [] (I, L, P) := fun c => by
      rw [show nI (bsB (aFresh S w) i) ||| 0 = nI (bsB (aFresh S w) i) from Int32.or_zero]
      exact go _ _ (by show _ = _ + (if aFresh S w i = true then 2 ^ i else 0); rw [if_neg (show ¬ aFresh S w i = true from fun q => c (of_decide_eq_true q))]; rfl)
    obtain ⟨c1, c2, c3, c4, c5⟩ := hS.2.2.1 i hi
    have zi : zin (nI i) 10 := n_zin (by omega) (by decide)
    dsimp only [x_int, x_lng, x_ild, x_lld, x_ald, x_ist, x_ast, x_lst, x_inc, x_ii, x_id, x_i, x_ll, x_ld, x_l, x_cmp, x_i2l, x_l2i, x_if, x_ic, x_dup, x_pop, x_dup2, x_gI, x_gL, x_gR, x_g1, x_g0, x_gP, x_pI, x_pZ, x_pL, x_pP, x_al, x_as, x_all, x_asl, x_alr, x_len, x_cpy, x_m2, x_m1, x_m2l, x_m1l, x_call, x_cv, x_ri, x_rz, x_rl, x_rv, zg, zset, zbef, zlong, zcat, cond_true, cond_false, List.take, List.drop, rv1, rv2, rv3, rv4, rv5, rv6, rv7, sm0, sm1, bl0, bl1, bl2, bl3, bl4, bl5, bl6, bl7, bl8, List.nil_append, List.cons_append, List.length_cons, List.length_nil, Nat.reduceBEq, Nat.reduceAdd, Nat.reduceSub, ta, tb, tn0, tn1, tn2, tn3, tn4, tn5, tn6, tn7, tn8, tn9, tn10, tn11, tn12, zk_38, zl_38, zk_36, zl_36, bX8_freshOn_46, bX8_freshOn_47, bX8_freshOn_62]
    rw [ht, n_cl (by omega), c3, n_succ i]
    refine ⟨hT.1, fun c => absurd c (lt_go hT.2.1.2.2 (by omega) hi), fun _ => ⟨zi, fun d1 => ⟨fun _ => no (fun q => q.1 d1), fun q => absurd rfl q⟩, fun d1 => p_isFaded r10 hS hi ?_⟩⟩
    dsimp only [x_int, x_lng, x_ild, x_lld, x_ald, x_ist, x_ast, x_lst, x_inc, x_ii, x_id, x_i, x_ll, x_ld, x_l, x_cmp, x_i2l, x_l2i, x_if, x_ic, x_dup, x_pop, x_dup2, x_gI, x_gL, x_gR, x_g1, x_g0, x_gP, x_pI, x_pZ, x_pL, x_pP, x_al, x_as, x_all, x_asl, x_alr, x_len, x_cpy, x_m2, x_m1, x_m2l, x_m1l, x_call, x_cv, x_ri, x_rz, x_rl, x_rv, zg, zset, zbef, zlong, zcat, cond_true, cond_false, List.take, List.drop, rv1, rv2, rv3, rv4, rv5, rv6, rv7, sm0, sm1, bl0, bl1, bl2, bl3, bl4, bl5, bl6, bl7, bl8, List.nil_append, List.cons_append, List.length_cons, List.length_nil, Nat.reduceBEq, Nat.reduceAdd, Nat.reduceSub, ta, tb, tn0, tn1, tn2, tn3, tn4, tn5, tn6, tn7, tn8, tn9, tn10, tn11, tn12, zk_38, zl_38, zk_36, zl_36, bX8_freshOn_46, bX8_freshOn_47, bX8_freshOn_62]
    try rw [n_cl (by omega)]
    rw [c1]
    by_cases d2 : S 7 i = 1
    · rw [if_pos d2]
      exact ⟨fun q => absurd q (by decide), fun _ => ⟨fun _ => no (fun q => q.2.1 d2), fun q => absurd rfl q⟩⟩
    · rw [if_neg d2]
      exact ⟨fun _ => ⟨zi, fun d3 => ⟨fun q => absurd q (by decide), fun _ => up ⟨d1, d2, d3⟩⟩, fun d3 => ⟨fun _ => no (fun q => d3 q.2.2), fun q => absurd rfl q⟩⟩, fun q => absurd rfl q⟩
  · rintro Z M ⟨z4, rfl, rfl⟩ self
    dsimp only [x_int, x_lng, x_ild, x_lld, x_ald, x_ist, x_ast, x_lst, x_inc, x_ii, x_id, x_i, x_ll, x_ld, x_l, x_cmp, x_i2l, x_l2i, x_if, x_ic, x_dup, x_pop, x_dup2, x_gI, x_gL, x_gR, x_g1, x_g0, x_gP, x_pI, x_pZ, x_pL, x_pP, x_al, x_as, x_all, x_asl, x_alr, x_len, x_cpy, x_m2, x_m1, x_m2l, x_m1l, x_call, x_cv, x_ri, x_rz, x_rl, x_rv, zg, zset, zbef, zlong, zcat, cond_true, cond_false, List.take, List.drop, rv1, rv2, rv3, rv4, rv5, rv6, rv7, sm0, sm1, bl0, bl1, bl2, bl3, bl4, bl5, bl6, bl7, bl8, List.nil_append, List.cons_append, List.length_cons, List.length_nil, Nat.reduceBEq, Nat.reduceAdd, Nat.reduceSub, ta, tb, tn0, tn1, tn2, tn3, tn4, tn5, tn6, tn7, tn8, tn9, tn10, tn11, tn12]
    rw [ht]
    exact ⟨hT.1, fun _ => hK, fun c => absurd c (lt_out hT.2.1.2.2)⟩
