def csR (I I' : zI) (a b : Nat) : Prop := (∀ c, c < 6 → I' 31 b c = I 31 a c ∧ I' 32 b c = I 32 a c ∧ I' 33 b c = I 33 a c) ∧ (∀ c, c < 4 → I' 34 b c = I 34 a c ∧ I' 35 b c = I 35 a c) ∧ (∀ c, c < 10 → I' 36 b c = I 36 a c ∧ I' 37 b c = I 37 a c ∧ I' 38 b c = I 38 a c ∧ I' 39 b c = I 39 a c ∧ I' 40 b c = I 40 a c) ∧ ∀ c, 13 ≤ c → c ≤ 17 → I' 8 b c = I 8 a c
theorem CS.copy {I I' : zI} {a b t : Nat} {T : aT} {S : aS} (hT : CT I t T) (h : CS I a T S) (e : csR I I' a b) : CS I' b T S := by
  obtain ⟨e1, e2, e3, e4⟩ := e
  obtain ⟨a1, a2, a3, a4, a5, a6, a7, a8⟩ := h
  have h6 := hT.h6
  have w4 := hT.w4
  have r10 := hT.r10
  refine ⟨fun x hx => ?_, fun x hx => ?_, fun x hx => ?_, ?_, ?_, ?_, ?_, ?_⟩
  · obtain ⟨q1, q2, q3⟩ := e1 x (by omega)
    rw [q1, q2, q3]; exact a1 x hx
  · obtain ⟨q1, q2⟩ := e2 x (by omega)
    rw [q1, q2]; exact a2 x hx
  · obtain ⟨q1, q2, q3, q4, q5⟩ := e3 x (by omega)
    rw [q1, q2, q3, q4, q5]; exact a3 x hx
  · rw [e4 _ (by decide) (by decide)]; exact a4
  · rw [e4 _ (by decide) (by decide)]; exact a5
  · rw [e4 _ (by decide) (by decide)]; exact a6
  · rw [e4 _ (by decide) (by decide)]; exact a7
  · rw [e4 _ (by decide) (by decide)]; exact a8
theorem p_copyOf {K : zQ} {I : zI} {L : zJ} {P : zP} {a b t : Nat} (hab : ¬ a = b) (ht : P 8 a 0 = t) (ht2 : t < 2)
    (hK : ∀ (I' : zI) (P' : zP), csR I I' a b → frS b I I' → P' 8 b 0 = t → (∀ x y z, ¬ (x = 8 ∧ y = b ∧ z = 0) → P' x y z = P x y z) → K [] (I', L, P')) : mX8_copyOf K [.inr (.inr (8, b)), .inr (.inr (8, a))] (I, L, P) := by
  have z6 : 0 ≤ (0 : Int32).toInt ∧ 0 ≤ (0 : Int32).toInt ∧ 0 ≤ (6 : Int32).toInt ∧ (0 : Int32).toInt + (6 : Int32).toInt ≤ ((6 : Nat) : Int) ∧ (0 : Int32).toInt + (6 : Int32).toInt ≤ ((6 : Nat) : Int) := by decide
  have z4 : 0 ≤ (0 : Int32).toInt ∧ 0 ≤ (0 : Int32).toInt ∧ 0 ≤ (4 : Int32).toInt ∧ (0 : Int32).toInt + (4 : Int32).toInt ≤ ((4 : Nat) : Int) ∧ (0 : Int32).toInt + (4 : Int32).toInt ≤ ((4 : Nat) : Int) := by decide
  have z10 : 0 ≤ (0 : Int32).toInt ∧ 0 ≤ (0 : Int32).toInt ∧ 0 ≤ (10 : Int32).toInt ∧ (0 : Int32).toInt + (10 : Int32).toInt ≤ ((10 : Nat) : Int) ∧ (0 : Int32).toInt + (10 : Int32).toInt ≤ ((10 : Nat) : Int) := by decide
  show bX8_copyOf_0 K [some (.inr (.inr (8,b))), some (.inr (.inr (8,a)))] [] (I, L, P)
  unfold bX8_copyOf_0
  dsimp only [x_int, x_lng, x_ild, x_lld, x_ald, x_ist, x_ast, x_lst, x_inc, x_ii, x_id, x_i, x_ll, x_ld, x_l, x_cmp, x_i2l, x_l2i, x_if, x_ic, x_dup, x_pop, x_dup2, x_gI, x_gL, x_gR, x_g1, x_g0, x_gP, x_pI, x_pZ, x_pL, x_pP, x_al, x_as, x_all, x_asl, x_alr, x_len, x_cpy, x_m2, x_m1, x_m2l, x_m1l, x_call, x_cv, x_ri, x_rz, x_rl, x_rv, zg, zset, zbef, zlong, zcat, cond_true, cond_false, List.take, List.drop, rv1, rv2, rv3, rv4, rv5, rv6, rv7, sm0, sm1, bl0, bl1, bl2, bl3, bl4, bl5, bl6, bl7, bl8, List.nil_append, List.cons_append, List.length_cons, List.length_nil, Nat.reduceBEq, Nat.reduceAdd, Nat.reduceSub, ta, tb, tn0, tn1, tn2, tn3, tn4, tn5, tn6, tn7, tn8, tn9, tn10, tn11, tn12, zc_31, zc_32, zc_33, zc_34, zc_35, zc_36, zc_37, zc_38, zc_39, zc_40]
  rw [ht]
  refine ⟨ht2, z6, z6, z6, z4, z4, z10, z10, z10, z10, z10, ?_⟩
  refine hK _ _ ⟨fun c hc => ?_, fun c hc => ?_, fun c hc => ?_, fun c h1 h2 => ?_⟩ (fun x y z q1 q2 => ?_) ?_ (fun x y z q => ?_)
  · simp [zcp, zsI, zsP, hc]
  · simp [zcp, zsI, zsP, hc]
  · simp [zcp, zsI, zsP, hc]
  · have : c = 13 ∨ c = 14 ∨ c = 15 ∨ c = 16 ∨ c = 17 := by omega
    rcases this with rfl | rfl | rfl | rfl | rfl <;> simp [zcp, zsI, zsP, hab]
  · have n1 : ∀ k, (Nat.ble 31 k && Nat.ble k 41) = true → ¬ (x = k ∧ y = b) := fun k hk e => q1 ⟨by rw [e.1]; exact hk, e.2⟩
    have m : ∀ k z9 lo hi : Nat, (Nat.ble 31 k && Nat.ble k 41) = true → ¬ (x = k ∧ y = b ∧ lo ≤ z9 ∧ z9 < hi) := fun k z9 lo hi hk e => n1 k hk ⟨e.1, e.2.1⟩
    have m8 : ∀ z9, ¬ (x = 8 ∧ y = b ∧ z = z9) := fun z9 e => q2 ⟨e.1, e.2.1⟩
    simp only [zcp, zsI, zsP]
    rw [if_neg (m 40 _ _ _ rfl), if_neg (m 39 _ _ _ rfl), if_neg (m 38 _ _ _ rfl), if_neg (m 37 _ _ _ rfl), if_neg (m 36 _ _ _ rfl), if_neg (m 35 _ _ _ rfl), if_neg (m 34 _ _ _ rfl), if_neg (m 33 _ _ _ rfl), if_neg (m 32 _ _ _ rfl), if_neg (m 31 _ _ _ rfl), if_neg (m8 17), if_neg (m8 16), if_neg (m8 15), if_neg (m8 14), if_neg (m8 13)]
  · simp [zcp, zsI, zsP]
  · simp only [zcp, zsI, zsP]
    rw [if_neg q]
-- counts
theorem p_manyOf {K : zQ} {I : zI} {L : zJ} {P : zP} {j t : Nat} {T : aT} {S : aS} {w : Int32} (ht : P 8 j 0 = t) (hT : CT I t T) (hS : CS I j T S) (hK : K [.inl (nI (zcount (fun r => decide (S 5 r = w)) (T.1 2)))] (I, L, P)) : mX8_manyOf K [.inr (.inr (8, j)), .inl w] (I, L, P) := by
  have r10 := hT.r10
  show bX8_manyOf_4 K [some (.inr (.inr (8, j))), some (.inl w), some (.inl 0), some (.inl 0)] [] (I, L, P)
  refine zfor (T.1 2) (fun i => [some (.inr (.inr (8, j))), some (.inl w), some (.inl (nI (zcount (fun r => decide (S 5 r = w)) i))), some (.inl (nI i))]) (fun _ => (I, L, P)) (fun i hi self hs => ?_) (fun self => ?_)
  · dsimp only [x_int, x_lng, x_ild, x_lld, x_ald, x_ist, x_ast, x_lst, x_inc, x_ii, x_id, x_i, x_ll, x_ld, x_l, x_cmp, x_i2l, x_l2i, x_if, x_ic, x_dup, x_pop, x_dup2, x_gI, x_gL, x_gR, x_g1, x_g0, x_gP, x_pI, x_pZ, x_pL, x_pP, x_al, x_as, x_all, x_asl, x_alr, x_len, x_cpy, x_m2, x_m1, x_m2l, x_m1l, x_call, x_cv, x_ri, x_rz, x_rl, x_rv, zg, zset, zbef, zlong, zcat, cond_true, cond_false, List.take, List.drop, rv1, rv2, rv3, rv4, rv5, rv6, rv7, sm0, sm1, bl0, bl1, bl2, bl3, bl4, bl5, bl6, bl7, bl8, List.nil_append, List.cons_append, List.length_cons, List.length_nil, Nat.reduceBEq, Nat.reduceAdd, Nat.reduceSub, ta, tb, tn0, tn1, tn2, tn3, tn4, tn5, tn6, tn7, tn8, tn9, tn10, tn11, tn12, zk_38, zl_38, bX8_manyOf_31]
    rw [ht, n_cl (by omega), (hS.2.2.1 i hi).2.2.1, n_succ i]
    refine ⟨hT.1, fun c => absurd c (lt_go hT.2.1.2.2 (by omega) hi), fun _ => ⟨n_zin (by omega) (by decide), fun c => ?_, fun c => ?_⟩⟩
    · have e : zcount (fun r => decide (S 5 r = w)) (i + 1) = zcount (fun r => decide (S 5 r = w)) i + 1 := by
        show _ + (if decide (S 5 i = w) = true then 1 else 0) = _
        simp [c]
      rw [n_succ, ← e]; exact hs
    · have e : zcount (fun r => decide (S 5 r = w)) (i + 1) = zcount (fun r => decide (S 5 r = w)) i := by
        show _ + (if decide (S 5 i = w) = true then 1 else 0) = _
        simp [c]
      rw [e] at hs
      rw [show nI (zcount (fun r => decide (S 5 r = w)) i) + 0 = nI (zcount (fun r => decide (S 5 r = w)) i) from Int32.add_zero _]
      exact hs
  · dsimp only [x_int, x_lng, x_ild, x_lld, x_ald, x_ist, x_ast, x_lst, x_inc, x_ii, x_id, x_i, x_ll, x_ld, x_l, x_cmp, x_i2l, x_l2i, x_if, x_ic, x_dup, x_pop, x_dup2, x_gI, x_gL, x_gR, x_g1, x_g0, x_gP, x_pI, x_pZ, x_pL, x_pP, x_al, x_as, x_all, x_asl, x_alr, x_len, x_cpy, x_m2, x_m1, x_m2l, x_m1l, x_call, x_cv, x_ri, x_rz, x_rl, x_rv, zg, zset, zbef, zlong, zcat, cond_true, cond_false, List.take, List.drop, rv1, rv2, rv3, rv4, rv5, rv6, rv7, sm0, sm1, bl0, bl1, bl2, bl3, bl4, bl5, bl6, bl7, bl8, List.nil_append, List.cons_append, List.length_cons, List.length_nil, Nat.reduceBEq, Nat.reduceAdd, Nat.reduceSub, ta, tb, tn0, tn1, tn2, tn3, tn4, tn5, tn6, tn7, tn8, tn9, tn10, tn11, tn12]
    rw [ht]
    exact ⟨hT.1, fun _ => hK, fun c => absurd c (lt_out hT.2.1.2.2)⟩
def aWrong (T : aT) (S : aS) : Nat := zcount (fun r => decide (S 5 r = 1 ∧ ¬ S 6 r = T.2.1 8 r)) (T.1 2)
def aMany (T : aT) (S : aS) (w : Int32) : Nat := zcount (fun r => decide (S 5 r = w)) (T.1 2)
theorem p_manyWrong {K : zQ} {I : zI} {L : zJ} {P : zP} {j t : Nat} {T : aT} {S : aS} (ht : P 8 j 0 = t) (hT : CT I t T) (hS : CS I j T S) (hK : K [.inl (nI (aWrong T S))] (I, L, P)) : mX8_manyWrong K [.inr (.inr (8, j))] (I, L, P) := by
  have r10 := hT.r10
  show bX8_manyWrong_4 K [some (.inr (.inr (8, j))), some (.inl 0), some (.inl 0)] [] (I, L, P)
  refine zfor (T.1 2) (fun i => [some (.inr (.inr (8, j))), some (.inl (nI (zcount (fun r => decide (S 5 r = 1 ∧ ¬ S 6 r = T.2.1 8 r)) i))), some (.inl (nI i))]) (fun _ => (I, L, P)) (fun i hi self hs => ?_) (fun self => ?_)
  · have up : S 5 i = 1 ∧ ¬ S 6 i = T.2.1 8 i → self [some (.inr (.inr (8, j))), some (.inl (nI (zcount (fun r => decide (S 5 r = 1 ∧ ¬ S 6 r = T.2.1 8 r)) i) + 1)), some (.inl (nI (i + 1)))] [] (I, L, P) := fun c => by
      have e : zcount (fun r => decide (S 5 r = 1 ∧ ¬ S 6 r = T.2.1 8 r)) (i + 1) = zcount (fun r => decide (S 5 r = 1 ∧ ¬ S 6 r = T.2.1 8 r)) i + 1 := by
        show _ + (if decide (S 5 i = 1 ∧ ¬ S 6 i = T.2.1 8 i) = true then 1 else 0) = _
        rw [if_pos (decide_eq_true c)]
      rw [n_succ, ← e]; exact hs
    have no : ¬ (S 5 i = 1 ∧ ¬ S 6 i = T.2.1 8 i) → self [some (.inr (.inr (8, j))), some (.inl (nI (zcount (fun r => decide (S 5 r = 1 ∧ ¬ S 6 r = T.2.1 8 r)) i) + 0)), some (.inl (nI (i + 1)))] [] (I, L, P) := fun c => by
      have e : zcount (fun r => decide (S 5 r = 1 ∧ ¬ S 6 r = T.2.1 8 r)) (i + 1) = zcount (fun r => decide (S 5 r = 1 ∧ ¬ S 6 r = T.2.1 8 r)) i := by
        show _ + (if decide (S 5 i = 1 ∧ ¬ S 6 i = T.2.1 8 i) = true then 1 else 0) = _
        rw [if_neg (fun q => c (of_decide_eq_true q))]
        rfl
      rw [e] at hs
      rw [show nI (zcount (fun r => decide (S 5 r = 1 ∧ ¬ S 6 r = T.2.1 8 r)) i) + 0 = nI (zcount (fun r => decide (S 5 r = 1 ∧ ¬ S 6 r = T.2.1 8 r)) i) from Int32.add_zero _]
      exact hs
    obtain ⟨c1, c2, c3, c4, c5⟩ := hS.2.2.1 i hi
    dsimp only [x_int, x_lng, x_ild, x_lld, x_ald, x_ist, x_ast, x_lst, x_inc, x_ii, x_id, x_i, x_ll, x_ld, x_l, x_cmp, x_i2l, x_l2i, x_if, x_ic, x_dup, x_pop, x_dup2, x_gI, x_gL, x_gR, x_g1, x_g0, x_gP, x_pI, x_pZ, x_pL, x_pP, x_al, x_as, x_all, x_asl, x_alr, x_len, x_cpy, x_m2, x_m1, x_m2l, x_m1l, x_call, x_cv, x_ri, x_rz, x_rl, x_rv, zg, zset, zbef, zlong, zcat, cond_true, cond_false, List.take, List.drop, rv1, rv2, rv3, rv4, rv5, rv6, rv7, sm0, sm1, bl0, bl1, bl2, bl3, bl4, bl5, bl6, bl7, bl8, List.nil_append, List.cons_append, List.length_cons, List.length_nil, Nat.reduceBEq, Nat.reduceAdd, Nat.reduceSub, ta, tb, tn0, tn1, tn2, tn3, tn4, tn5, tn6, tn7, tn8, tn9, tn10, tn11, tn12, zk_38, zl_38, zk_39, zl_39, bX8_manyWrong_51, bX8_manyWrong_52]
    rw [ht, n_cl (by omega), c3, c4, (hT.rap hi).1, n_succ i]
    have zi : zin (nI i) 10 := n_zin (by omega) (by decide)
    exact ⟨hT.1, fun c => absurd c (lt_go hT.2.1.2.2 (by omega) hi), fun _ => ⟨zi, fun c => ⟨zi, hT.1, zi, fun d => no (fun q => q.2 d), fun d => up ⟨c, d⟩⟩, fun c => no (fun q => c q.1)⟩⟩
  · dsimp only [x_int, x_lng, x_ild, x_lld, x_ald, x_ist, x_ast, x_lst, x_inc, x_ii, x_id, x_i, x_ll, x_ld, x_l, x_cmp, x_i2l, x_l2i, x_if, x_ic, x_dup, x_pop, x_dup2, x_gI, x_gL, x_gR, x_g1, x_g0, x_gP, x_pI, x_pZ, x_pL, x_pP, x_al, x_as, x_all, x_asl, x_alr, x_len, x_cpy, x_m2, x_m1, x_m2l, x_m1l, x_call, x_cv, x_ri, x_rz, x_rl, x_rv, zg, zset, zbef, zlong, zcat, cond_true, cond_false, List.take, List.drop, rv1, rv2, rv3, rv4, rv5, rv6, rv7, sm0, sm1, bl0, bl1, bl2, bl3, bl4, bl5, bl6, bl7, bl8, List.nil_append, List.cons_append, List.length_cons, List.length_nil, Nat.reduceBEq, Nat.reduceAdd, Nat.reduceSub, ta, tb, tn0, tn1, tn2, tn3, tn4, tn5, tn6, tn7, tn8, tn9, tn10, tn11, tn12]
    rw [ht]
    exact ⟨hT.1, fun _ => hK, fun c => absurd c (lt_out hT.2.1.2.2)⟩
