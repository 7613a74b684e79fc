-- how things stand at first
def sc0 (T : aT) : aS := fun f i => match f with
  | 0 => T.2.1 1 i
  | 2 => T.2.1 7 i
  | 3 => T.2.1 9 i
  | 4 => T.2.1 10 i
  | 6 => -1
  | 10 => T.2.1 12 0
  | 11 => T.2.1 2 i
  | 12 => T.2.1 6 i
  | 13 => T.2.1 11 0
  | 14 => -1
  | _ => 0
theorem bsum_0 {f : Nat → Int32} (h : ∀ i, f i = 0) : ∀ n, bsum f n = 0 := by
  intro n
  induction n with
  | zero => rfl
  | succ n ih =>
    show bsum f n + (if f n = 1 then 2 ^ n else 0) = 0
    rw [ih, h n]; rfl
theorem dgt_z {T : aT} {x : Nat} : dgt (sc0 T 8) x = 0 := by
  unfold dgt
  rw [show (fun k => sc0 T 8 (6 * x + k)) = (fun _ => 0) from rfl]
  decide
set_option maxHeartbeats 2000000 in
theorem p_begin {K : zQ} {I : zI} {L : zJ} {P : zP} {j t : Nat} {T : aT} (hT : CT I t T) (hK : ∀ (I' : zI) (P' : zP), frS j I I' → CS I' j T (sc0 T) → P' 8 j 0 = t → (∀ x y z, ¬ (x = 8 ∧ y = j ∧ z = 0) → P' x y z = P x y z) → K [] (I', L, P')) : mX8_begin K [.inr (.inr (8, j)), .inr (.inr (9, t))] (I, L, P) := by
  have h6 := hT.h6
  have w4 := hT.w4
  have r10 := hT.r10
  show bX8_begin_0 K [some (.inr (.inr (8,j))), some (.inr (.inr (9,t))), none] [] (I, L, P)
  unfold bX8_begin_0
  dsimp only [x_int, x_lng, x_ild, x_lld, x_ald, x_ist, x_ast, x_lst, x_inc, x_ii, x_id, x_i, x_ll, x_ld, x_l, x_cmp, x_i2l, x_l2i, x_if, x_ic, x_dup, x_pop, x_dup2, x_gI, x_gL, x_gR, x_g1, x_g0, x_gP, x_pI, x_pZ, x_pL, x_pP, x_al, x_as, x_all, x_asl, x_alr, x_len, x_cpy, x_m2, x_m1, x_m2l, x_m1l, x_call, x_cv, x_ri, x_rz, x_rl, x_rv, zg, zset, zbef, zlong, zcat, cond_true, cond_false, List.take, List.drop, rv1, rv2, rv3, rv4, rv5, rv6, rv7, sm0, sm1, bl0, bl1, bl2, bl3, bl4, bl5, bl6, bl7, bl8, List.nil_append, List.cons_append, List.length_cons, List.length_nil, Nat.reduceBEq, Nat.reduceAdd, Nat.reduceSub, ta, tb, tn0, tn1, tn2, tn3, tn4, tn5, tn6, tn7, tn8, tn9, tn10, tn11, tn12]
  obtain ⟨P1, eP, wP, fP⟩ := zsP_ex I L P 8 j 0 t
  rw [eP]
  obtain ⟨I1, e1, v1, f1⟩ := zsI_ex I L P1 8 j 13 0
  rw [e1]
  obtain ⟨I2, e2, v2, f2⟩ := zsI_ex I1 L P1 8 j 17 0
  rw [e2]
  dsimp only
  rw [f2 9 t _ (by omega), f1 9 t _ (by omega)]
  obtain ⟨I3, e3, v3, f3⟩ := zsI_ex I2 L P1 8 j 14 (I 9 t 8)
  rw [e3]
  dsimp only
  rw [f3 9 t _ (by omega), f2 9 t _ (by omega), f1 9 t _ (by omega)]
  obtain ⟨I4, e4, v4, f4⟩ := zsI_ex I3 L P1 8 j 15 (I 9 t 7)
  rw [e4]
  obtain ⟨I5, e5, v5, f5⟩ := zsI_ex I4 L P1 8 j 16 (-1)
  rw [e5]
  have b8 : ∀ a b c, ¬ (a = 8 ∧ b = j) → I5 a b c = I a b c := fun a b c q => by
    rw [f5 a b c (fun e => q ⟨e.1, e.2.1⟩), f4 a b c (fun e => q ⟨e.1, e.2.1⟩), f3 a b c (fun e => q ⟨e.1, e.2.1⟩), f2 a b c (fun e => q ⟨e.1, e.2.1⟩), f1 a b c (fun e => q ⟨e.1, e.2.1⟩)]
  have u5 : I5 8 j 16 = -1 := v5
  have u4 : I5 8 j 15 = T.2.1 11 0 := by rw [f5 _ _ _ (by omega), v4]; exact hT.2.2.2.2.2.2.1.1
  have u3 : I5 8 j 14 = T.2.1 12 0 := by rw [f5 _ _ _ (by omega), f4 _ _ _ (by omega), v3]; exact hT.2.2.2.2.2.2.1.2.1
  have u2 : I5 8 j 17 = 0 := by rw [f5 _ _ _ (by omega), f4 _ _ _ (by omega), f3 _ _ _ (by omega), v2]
  have u1 : I5 8 j 13 = 0 := by rw [f5 _ _ _ (by omega), f4 _ _ _ (by omega), f3 _ _ _ (by omega), f2 _ _ _ (by omega), v1]
  clear f1 f2 f3 f4 f5 v1 v2 v3 v4 v5 e1 e2 e3 e4 e5 eP
  refine zinv 6 (fun n Z M => ∃ I' : zI, Z = [some (.inr (.inr (8, j))), some (.inr (.inr (9, t))), some (.inl (nI n))] ∧ M = (I', L, P1) ∧ (∀ a b c, ¬ (b = j ∧ (a = 31 ∨ a = 32 ∨ a = 33)) → I' a b c = I5 a b c) ∧ ∀ i, i < n → I' 31 j i = I 1 (6 * t + i) 3 ∧ I' 32 j i = I 1 (6 * t + i) 4 ∧ I' 33 j i = 0) ?_ ?_ ⟨I5, rfl, rfl, fun _ _ _ _ => rfl, fun i hi => by omega⟩
  · rintro n Z M hn ⟨I', rfl, rfl, hI, hd⟩ self hself
    have z : zin (nI n) 6 := n_zin hn (by decide)
    dsimp only [x_int, x_lng, x_ild, x_lld, x_ald, x_ist, x_ast, x_lst, x_inc, x_ii, x_id, x_i, x_ll, x_ld, x_l, x_cmp, x_i2l, x_l2i, x_if, x_ic, x_dup, x_pop, x_dup2, x_gI, x_gL, x_gR, x_g1, x_g0, x_gP, x_pI, x_pZ, x_pL, x_pP, x_al, x_as, x_all, x_asl, x_alr, x_len, x_cpy, x_m2, x_m1, x_m2l, x_m1l, x_call, x_cv, x_ri, x_rz, x_rl, x_rv, zg, zset, zbef, zlong, zcat, cond_true, cond_false, List.take, List.drop, rv1, rv2, rv3, rv4, rv5, rv6, rv7, sm0, sm1, bl0, bl1, bl2, bl3, bl4, bl5, bl6, bl7, bl8, List.nil_append, List.cons_append, List.length_cons, List.length_nil, Nat.reduceBEq, Nat.reduceAdd, Nat.reduceSub, ta, tb, tn0, tn1, tn2, tn3, tn4, tn5, tn6, tn7, tn8, tn9, tn10, tn11, tn12, zk_31, zl_31, zk_32, zl_32, zk_33, zl_33, zl_43]
    rw [n_cl (n := n) (by omega), n_succ n]
    obtain ⟨J1, g1, x1, k1⟩ := zsI_ex I' L P1 31 j n (I' 1 (6 * t + n) 3)
    rw [g1]
    dsimp only
    obtain ⟨J2, g2, x2, k2⟩ := zsI_ex J1 L P1 32 j n (J1 1 (6 * t + n) 4)
    rw [g2]
    obtain ⟨J3, g3, x3, k3⟩ := zsI_ex J2 L P1 33 j n 0
    rw [g3]
    refine ⟨fun q => absurd q (lt_go (n := 6) rfl (by omega) hn), fun _ => ⟨z, z, z, z, z, hself _ _ ⟨J3, rfl, rfl, fun a b c q => ?_, fun i hi => ?_⟩⟩⟩
    · rw [k3 a b c (by omega), k2 a b c (by omega), k1 a b c (by omega)]; exact hI a b c q
    · by_cases e : i = n
      · subst e
        refine ⟨?_, ?_, x3⟩
        · rw [k3 _ _ _ (by omega), k2 _ _ _ (by omega), x1, hI _ _ _ (by omega), b8 _ _ _ (by omega)]
        · rw [k3 _ _ _ (by omega), x2, k1 _ _ _ (by omega), hI _ _ _ (by omega), b8 _ _ _ (by omega)]
      · rw [k3 _ _ _ (by omega), k2 _ _ _ (by omega), k1 _ _ _ (by omega), k3 _ _ _ (by omega), k2 _ _ _ (by omega), k1 _ _ _ (by omega), k3 _ _ _ (by omega), k2 _ _ _ (by omega), k1 _ _ _ (by omega)]
        exact hd i (by omega)
  rintro Z M ⟨I6, rfl, rfl, a1, a2⟩ self
  dsimp only [x_int, x_lng, x_ild, x_lld, x_ald, x_ist, x_ast, x_lst, x_inc, x_ii, x_id, x_i, x_ll, x_ld, x_l, x_cmp, x_i2l, x_l2i, x_if, x_ic, x_dup, x_pop, x_dup2, x_gI, x_gL, x_gR, x_g1, x_g0, x_gP, x_pI, x_pZ, x_pL, x_pP, x_al, x_as, x_all, x_asl, x_alr, x_len, x_cpy, x_m2, x_m1, x_m2l, x_m1l, x_call, x_cv, x_ri, x_rz, x_rl, x_rv, zg, zset, zbef, zlong, zcat, cond_true, cond_false, List.take, List.drop, rv1, rv2, rv3, rv4, rv5, rv6, rv7, sm0, sm1, bl0, bl1, bl2, bl3, bl4, bl5, bl6, bl7, bl8, List.nil_append, List.cons_append, List.length_cons, List.length_nil, Nat.reduceBEq, Nat.reduceAdd, Nat.reduceSub, ta, tb, tn0, tn1, tn2, tn3, tn4, tn5, tn6, tn7, tn8, tn9, tn10, tn11, tn12]
  refine ⟨fun _ => ?_, fun q => absurd q (lt_out (n := 6) rfl)⟩
  refine zinv 4 (fun n Z M => ∃ I' : zI, Z = [some (.inr (.inr (8, j))), some (.inr (.inr (9, t))), some (.inl (nI n))] ∧ M = (I', L, P1) ∧ (∀ a b c, ¬ (b = j ∧ (a = 34 ∨ a = 35)) → I' a b c = I6 a b c) ∧ ∀ i, i < n → I' 34 j i = I 10 (4 * t + i) 2 ∧ I' 35 j i = I 10 (4 * t + i) 3) ?_ ?_ ⟨I6, rfl, rfl, fun _ _ _ _ => rfl, fun i hi => by omega⟩
  · rintro n Z M hn ⟨I', rfl, rfl, hI, hd⟩ self hself
    have z : zin (nI n) 4 := n_zin hn (by decide)
    dsimp only [x_int, x_lng, x_ild, x_lld, x_ald, x_ist, x_ast, x_lst, x_inc, x_ii, x_id, x_i, x_ll, x_ld, x_l, x_cmp, x_i2l, x_l2i, x_if, x_ic, x_dup, x_pop, x_dup2, x_gI, x_gL, x_gR, x_g1, x_g0, x_gP, x_pI, x_pZ, x_pL, x_pP, x_al, x_as, x_all, x_asl, x_alr, x_len, x_cpy, x_m2, x_m1, x_m2l, x_m1l, x_call, x_cv, x_ri, x_rz, x_rl, x_rv, zg, zset, zbef, zlong, zcat, cond_true, cond_false, List.take, List.drop, rv1, rv2, rv3, rv4, rv5, rv6, rv7, sm0, sm1, bl0, bl1, bl2, bl3, bl4, bl5, bl6, bl7, bl8, List.nil_append, List.cons_append, List.length_cons, List.length_nil, Nat.reduceBEq, Nat.reduceAdd, Nat.reduceSub, ta, tb, tn0, tn1, tn2, tn3, tn4, tn5, tn6, tn7, tn8, tn9, tn10, tn11, tn12, zk_34, zl_34, zk_35, zl_35, zl_44]
    rw [n_cl (n := n) (by omega), n_succ n]
    obtain ⟨J1, g1, x1, k1⟩ := zsI_ex I' L P1 34 j n (I' 10 (4 * t + n) 2)
    rw [g1]
    dsimp only
    obtain ⟨J2, g2, x2, k2⟩ := zsI_ex J1 L P1 35 j n (J1 10 (4 * t + n) 3)
    rw [g2]
    refine ⟨fun q => absurd q (lt_go (n := 4) rfl (by omega) hn), fun _ => ⟨z, z, z, z, hself _ _ ⟨J2, rfl, rfl, fun a b c q => ?_, fun i hi => ?_⟩⟩⟩
    · rw [k2 a b c (by omega), k1 a b c (by omega)]; exact hI a b c q
    · by_cases e : i = n
      · subst e
        refine ⟨?_, ?_⟩
        · rw [k2 _ _ _ (by omega), x1, hI _ _ _ (by omega), a1 _ _ _ (by omega), b8 _ _ _ (by omega)]
        · rw [x2, k1 _ _ _ (by omega), hI _ _ _ (by omega), a1 _ _ _ (by omega), b8 _ _ _ (by omega)]
      · rw [k2 _ _ _ (by omega), k1 _ _ _ (by omega), k2 _ _ _ (by omega), k1 _ _ _ (by omega)]
        exact hd i (by omega)
  rintro Z M ⟨I7, rfl, rfl, c1, c2⟩ self
  dsimp only [x_int, x_lng, x_ild, x_lld, x_ald, x_ist, x_ast, x_lst, x_inc, x_ii, x_id, x_i, x_ll, x_ld, x_l, x_cmp, x_i2l, x_l2i, x_if, x_ic, x_dup, x_pop, x_dup2, x_gI, x_gL, x_gR, x_g1, x_g0, x_gP, x_pI, x_pZ, x_pL, x_pP, x_al, x_as, x_all, x_asl, x_alr, x_len, x_cpy, x_m2, x_m1, x_m2l, x_m1l, x_call, x_cv, x_ri, x_rz, x_rl, x_rv, zg, zset, zbef, zlong, zcat, cond_true, cond_false, List.take, List.drop, rv1, rv2, rv3, rv4, rv5, rv6, rv7, sm0, sm1, bl0, bl1, bl2, bl3, bl4, bl5, bl6, bl7, bl8, List.nil_append, List.cons_append, List.length_cons, List.length_nil, Nat.reduceBEq, Nat.reduceAdd, Nat.reduceSub, ta, tb, tn0, tn1, tn2, tn3, tn4, tn5, tn6, tn7, tn8, tn9, tn10, tn11, tn12]
  refine ⟨fun _ => ?_, fun q => absurd q (lt_out (n := 4) rfl)⟩
  refine zinv 10 (fun n Z M => ∃ I' : zI, Z = [some (.inr (.inr (8, j))), some (.inr (.inr (9, t))), some (.inl (nI n))] ∧ M = (I', L, P1) ∧ (∀ a b c, ¬ (b = j ∧ (36 ≤ a ∧ a ≤ 40)) → I' a b c = I7 a b c) ∧ ∀ i, i < n → I' 36 j i = I 4 (10 * t + i) 1 ∧ I' 37 j i = I 4 (10 * t + i) 2 ∧ I' 38 j i = 0 ∧ I' 39 j i = -1 ∧ I' 40 j i = 0) ?_ ?_ ⟨I7, rfl, rfl, fun _ _ _ _ => rfl, fun i hi => by omega⟩
  · rintro n Z M hn ⟨I', rfl, rfl, hI, hd⟩ self hself
    have z : zin (nI n) 10 := n_zin hn (by decide)
    dsimp only [x_int, x_lng, x_ild, x_lld, x_ald, x_ist, x_ast, x_lst, x_inc, x_ii, x_id, x_i, x_ll, x_ld, x_l, x_cmp, x_i2l, x_l2i, x_if, x_ic, x_dup, x_pop, x_dup2, x_gI, x_gL, x_gR, x_g1, x_g0, x_gP, x_pI, x_pZ, x_pL, x_pP, x_al, x_as, x_all, x_asl, x_alr, x_len, x_cpy, x_m2, x_m1, x_m2l, x_m1l, x_call, x_cv, x_ri, x_rz, x_rl, x_rv, zg, zset, zbef, zlong, zcat, cond_true, cond_false, List.take, List.drop, rv1, rv2, rv3, rv4, rv5, rv6, rv7, sm0, sm1, bl0, bl1, bl2, bl3, bl4, bl5, bl6, bl7, bl8, List.nil_append, List.cons_append, List.length_cons, List.length_nil, Nat.reduceBEq, Nat.reduceAdd, Nat.reduceSub, ta, tb, tn0, tn1, tn2, tn3, tn4, tn5, tn6, tn7, tn8, tn9, tn10, tn11, tn12, zk_36, zl_36, zk_37, zl_37, zk_38, zl_38, zk_39, zl_39, zk_40, zl_40, zl_45]
    rw [n_cl (n := n) (by omega), n_succ n]
    obtain ⟨J1, g1, x1, k1⟩ := zsI_ex I' L P1 36 j n (I' 4 (10 * t + n) 1)
    rw [g1]
    dsimp only
    obtain ⟨J2, g2, x2, k2⟩ := zsI_ex J1 L P1 37 j n (J1 4 (10 * t + n) 2)
    rw [g2]
    obtain ⟨J3, g3, x3, k3⟩ := zsI_ex J2 L P1 38 j n 0
    rw [g3]
    obtain ⟨J4, g4, x4, k4⟩ := zsI_ex J3 L P1 39 j n (-1)
    rw [g4]
    obtain ⟨J5, g5, x5, k5⟩ := zsI_ex J4 L P1 40 j n 0
    rw [g5]
    have back : ∀ a b c, ¬ (b = j ∧ (36 ≤ a ∧ a ≤ 40) ∧ c = n) → J5 a b c = I' a b c := fun a b c q => by
      rw [k5 a b c (by omega), k4 a b c (by omega), k3 a b c (by omega), k2 a b c (by omega), k1 a b c (by omega)]
    refine ⟨fun q => absurd q (lt_go (n := 10) rfl (by omega) hn), fun _ => ⟨z, z, z, z, z, z, z, hself _ _ ⟨J5, rfl, rfl, fun a b c q => ?_, fun i hi => ?_⟩⟩⟩
    · rw [back a b c (by omega)]; exact hI a b c q
    · by_cases e : i = n
      · subst e
        refine ⟨?_, ?_, ?_, ?_, x5⟩
        · rw [k5 _ _ _ (by omega), k4 _ _ _ (by omega), k3 _ _ _ (by omega), k2 _ _ _ (by omega), x1, hI _ _ _ (by omega), c1 _ _ _ (by omega), a1 _ _ _ (by omega), b8 _ _ _ (by omega)]
        · rw [k5 _ _ _ (by omega), k4 _ _ _ (by omega), k3 _ _ _ (by omega), x2, k1 _ _ _ (by omega), hI _ _ _ (by omega), c1 _ _ _ (by omega), a1 _ _ _ (by omega), b8 _ _ _ (by omega)]
        · rw [k5 _ _ _ (by omega), k4 _ _ _ (by omega), x3]
        · rw [k5 _ _ _ (by omega), x4]
      · rw [back _ _ _ (by omega), back _ _ _ (by omega), back _ _ _ (by omega), back _ _ _ (by omega), back _ _ _ (by omega)]
        exact hd i (by omega)
  rintro Z M ⟨I8, rfl, rfl, d1, d2⟩ self
  dsimp only [x_int, x_lng, x_ild, x_lld, x_ald, x_ist, x_ast, x_lst, x_inc, x_ii, x_id, x_i, x_ll, x_ld, x_l, x_cmp, x_i2l, x_l2i, x_if, x_ic, x_dup, x_pop, x_dup2, x_gI, x_gL, x_gR, x_g1, x_g0, x_gP, x_pI, x_pZ, x_pL, x_pP, x_al, x_as, x_all, x_asl, x_alr, x_len, x_cpy, x_m2, x_m1, x_m2l, x_m1l, x_call, x_cv, x_ri, x_rz, x_rl, x_rv, zg, zset, zbef, zlong, zcat, cond_true, cond_false, List.take, List.drop, rv1, rv2, rv3, rv4, rv5, rv6, rv7, sm0, sm1, bl0, bl1, bl2, bl3, bl4, bl5, bl6, bl7, bl8, List.nil_append, List.cons_append, List.length_cons, List.length_nil, Nat.reduceBEq, Nat.reduceAdd, Nat.reduceSub, ta, tb, tn0, tn1, tn2, tn3, tn4, tn5, tn6, tn7, tn8, tn9, tn10, tn11, tn12]
  refine ⟨fun _ => hK I8 P1 (fun a b c q1 q2 => ?_) ?_ wP fP, fun q => absurd q (lt_out (n := 10) rfl)⟩
  · have q1 : ¬ ((31 ≤ a ∧ a ≤ 41) ∧ b = j) := fun e => q1 ⟨by simp only [Bool.and_eq_true, Nat.ble_eq]; exact e.1, e.2⟩
    rw [d1 a b c (by omega), c1 a b c (by omega), a1 a b c (by omega)]
    exact b8 a b c q2
  · have o8 : ∀ c, I8 8 j c = I5 8 j c := fun c => by rw [d1 _ _ _ (by omega), c1 _ _ _ (by omega), a1 _ _ _ (by omega)]
    refine ⟨fun x hx => ?_, fun x hx => ?_, fun x hx => ?_, ?_, ?_, ?_, ?_, ?_⟩
    · obtain ⟨y1, y2, y3⟩ := a2 x (by omega)
      obtain ⟨-, t1, t2, -⟩ := hT.hand hx
      rw [d1 _ _ _ (by omega), c1 _ _ _ (by omega), y1, d1 _ _ _ (by omega), c1 _ _ _ (by omega), y3, d1 _ _ _ (by omega), c1 _ _ _ (by omega), y2]
      exact ⟨t1, rfl, t2⟩
    · obtain ⟨y1, y2⟩ := c2 x (by omega)
      obtain ⟨-, -, t1, t2⟩ := hT.wood hx
      rw [d1 _ _ _ (by omega), y1, d1 _ _ _ (by omega), y2]
      exact ⟨t1, t2⟩
    · obtain ⟨y1, y2, y3, y4, y5⟩ := d2 x (by omega)
      obtain ⟨-, t1, t2⟩ := hT.rap hx
      rw [y1, y2, y3, y4, y5]
      exact ⟨t1, t2, rfl, rfl, dgt_z.symm⟩
    · rw [o8]; exact u1
    · rw [o8]; exact u3
    · rw [o8]; exact u4
    · rw [o8]; exact u5
    · rw [o8, u2, bsum_0 (f := sc0 T 7) (fun i => rfl)]; rfl
-- the reference
def afK (b a c : Nat) : Prop := ((a = 76 ∨ a = 77) ∧ 6 * b ≤ c ∧ c < 6 * b + 6) ∨ (a = 78 ∧ 4 * b ≤ c ∧ c < 4 * b + 4) ∨ ((79 ≤ a ∧ a ≤ 84) ∧ 10 * b ≤ c ∧ c < 10 * b + 10) ∨ (a = 85 ∧ 60 * b ≤ c ∧ c < 60 * b + 60) ∨ (a = 86 ∧ c = b)
def afR (b : Nat) (I I' : zI) : Prop := (∀ h, h < 6 → I' 76 0 (6 * b + h) = I 56 0 h ∧ I' 77 0 (6 * b + h) = 0) ∧ (∀ w, w < 4 → I' 78 0 (4 * b + w) = I 62 0 w) ∧ (∀ r, r < 10 → I' 79 0 (10 * b + r) = I 64 0 r ∧ I' 80 0 (10 * b + r) = I 65 0 r ∧ I' 81 0 (10 * b + r) = 0 ∧ I' 82 0 (10 * b + r) = -1 ∧ I' 83 0 (10 * b + r) = 0 ∧ I' 84 0 (10 * b + r) = 0) ∧ (∀ k, k < 60 → I' 85 0 (60 * b + k) = 0) ∧ I' 86 0 b = 0
theorem n4 (b h : Nat) : (4 : Int32) * nI b + nI h = nI (4 * b + h) := by rw [show (4 : Int32) = nI 4 from rfl, n_mul, n_add]
theorem n60a (b h : Nat) : (60 : Int32) * nI b + nI h = nI (60 * b + h) := by rw [show (60 : Int32) = nI 60 from rfl, n_mul, n_add]
set_option maxHeartbeats 2000000 in
theorem p_atFirst {K : zQ} {I : zI} {L : zJ} {P : zP} {b : Nat} (hb : b < 2) (hK : ∀ I' : zI, ony (afK b) I I' → afR b I I' → K [] (I', L, P)) : mX12_atFirst K [refR, .inl (nI b)] (I, L, P) := by
  show bX12_atFirst_2 K [some refR, some (.inl (nI b)), some (.inl 0)] [] (I, L, P)
  refine zinv 6 (fun n Z M => ∃ I' : zI, Z = [some refR, some (.inl (nI b)), some (.inl (nI n))] ∧ M = (I', L, P) ∧ ony (fun a c => (a = 76 ∨ a = 77) ∧ 6 * b ≤ c ∧ c < 6 * b + 6) I I' ∧ ∀ i, i < n → I' 76 0 (6 * b + i) = I 56 0 i ∧ I' 77 0 (6 * b + i) = 0) ?_ ?_ ⟨I, rfl, rfl, ony.rf, fun i hi => by omega⟩
  · rintro n Z M hn ⟨I', rfl, rfl, hI, hd⟩ self hself
    have z : zin (nI (6 * b + n)) 12 := n_zin (by omega) (by decide)
    dsimp only [x_int, x_lng, x_ild, x_lld, x_ald, x_ist, x_ast, x_lst, x_inc, x_ii, x_id, x_i, x_ll, x_ld, x_l, x_cmp, x_i2l, x_l2i, x_if, x_ic, x_dup, x_pop, x_dup2, x_gI, x_gL, x_gR, x_g1, x_g0, x_gP, x_pI, x_pZ, x_pL, x_pP, x_al, x_as, x_all, x_asl, x_alr, x_len, x_cpy, x_m2, x_m1, x_m2l, x_m1l, x_call, x_cv, x_ri, x_rz, x_rl, x_rv, zg, zset, zbef, zlong, zcat, cond_true, cond_false, List.take, List.drop, rv1, rv2, rv3, rv4, rv5, rv6, rv7, sm0, sm1, bl0, bl1, bl2, bl3, bl4, bl5, bl6, bl7, bl8, List.nil_append, List.cons_append, List.length_cons, List.length_nil, Nat.reduceBEq, Nat.reduceAdd, Nat.reduceSub, ta, tb, tn0, tn1, tn2, tn3, tn4, tn5, tn6, tn7, tn8, tn9, tn10, tn11, tn12, zk_76, zl_76, zk_77, zl_77, zk_56, zl_56]
    rw [n6, n_cl (n := 6 * b + n) (by omega), n_cl (n := n) (by omega), n_succ n, hI.lo (a := 56) (by omega)]
    obtain ⟨J1, g1, x1, k1⟩ := zsI_ex I' L P 76 0 (6 * b + n) (I 56 0 n)
    rw [g1]
    obtain ⟨J2, g2, x2, k2⟩ := zsI_ex J1 L P 77 0 (6 * b + n) 0
    rw [g2]
    refine ⟨fun q => absurd q (lt_go (n := 6) rfl (by omega) hn), fun _ => ⟨n_zin (by omega) (by decide), z, z, hself _ _ ⟨J2, rfl, rfl, fun a i c q => ?_, fun i hi => ?_⟩⟩⟩
    · rw [k2 a i c (by omega), k1 a i c (by omega)]; exact hI a i c q
    · by_cases e : i = n
      · subst e; exact ⟨by rw [k2 _ _ _ (by omega)]; exact x1, x2⟩
      · rw [k2 _ _ _ (by omega), k1 _ _ _ (by omega), k2 _ _ _ (by omega), k1 _ _ _ (by omega)]; exact hd i (by omega)
  rintro Z M ⟨I6, rfl, rfl, a1, a2⟩ self
  dsimp only [x_int, x_lng, x_ild, x_lld, x_ald, x_ist, x_ast, x_lst, x_inc, x_ii, x_id, x_i, x_ll, x_ld, x_l, x_cmp, x_i2l, x_l2i, x_if, x_ic, x_dup, x_pop, x_dup2, x_gI, x_gL, x_gR, x_g1, x_g0, x_gP, x_pI, x_pZ, x_pL, x_pP, x_al, x_as, x_all, x_asl, x_alr, x_len, x_cpy, x_m2, x_m1, x_m2l, x_m1l, x_call, x_cv, x_ri, x_rz, x_rl, x_rv, zg, zset, zbef, zlong, zcat, cond_true, cond_false, List.take, List.drop, rv1, rv2, rv3, rv4, rv5, rv6, rv7, sm0, sm1, bl0, bl1, bl2, bl3, bl4, bl5, bl6, bl7, bl8, List.nil_append, List.cons_append, List.length_cons, List.length_nil, Nat.reduceBEq, Nat.reduceAdd, Nat.reduceSub, ta, tb, tn0, tn1, tn2, tn3, tn4, tn5, tn6, tn7, tn8, tn9, tn10, tn11, tn12]
  refine ⟨fun _ => ?_, fun q => absurd q (lt_out (n := 6) rfl)⟩
  refine zinv 4 (fun n Z M => ∃ I' : zI, Z = [some refR, some (.inl (nI b)), some (.inl (nI n))] ∧ M = (I', L, P) ∧ ony (fun a c => a = 78 ∧ 4 * b ≤ c ∧ c < 4 * b + 4) I6 I' ∧ ∀ i, i < n → I' 78 0 (4 * b + i) = I 62 0 i) ?_ ?_ ⟨I6, rfl, rfl, ony.rf, fun i hi => by omega⟩
  · rintro n Z M hn ⟨I', rfl, rfl, hI, hd⟩ self hself
    have z : zin (nI (4 * b + n)) 8 := n_zin (by omega) (by decide)
    dsimp only [x_int, x_lng, x_ild, x_lld, x_ald, x_ist, x_ast, x_lst, x_inc, x_ii, x_id, x_i, x_ll, x_ld, x_l, x_cmp, x_i2l, x_l2i, x_if, x_ic, x_dup, x_pop, x_dup2, x_gI, x_gL, x_gR, x_g1, x_g0, x_gP, x_pI, x_pZ, x_pL, x_pP, x_al, x_as, x_all, x_asl, x_alr, x_len, x_cpy, x_m2, x_m1, x_m2l, x_m1l, x_call, x_cv, x_ri, x_rz, x_rl, x_rv, zg, zset, zbef, zlong, zcat, cond_true, cond_false, List.take, List.drop, rv1, rv2, rv3, rv4, rv5, rv6, rv7, sm0, sm1, bl0, bl1, bl2, bl3, bl4, bl5, bl6, bl7, bl8, List.nil_append, List.cons_append, List.length_cons, List.length_nil, Nat.reduceBEq, Nat.reduceAdd, Nat.reduceSub, ta, tb, tn0, tn1, tn2, tn3, tn4, tn5, tn6, tn7, tn8, tn9, tn10, tn11, tn12, zk_78, zl_78, zk_62, zl_62]
    rw [n4, n_cl (n := 4 * b + n) (by omega), n_cl (n := n) (by omega), n_succ n, hI.lo (a := 62) (by omega), a1.lo (a := 62) (by omega)]
    obtain ⟨J1, g1, x1, k1⟩ := zsI_ex I' L P 78 0 (4 * b + n) (I 62 0 n)
    rw [g1]
    refine ⟨fun q => absurd q (lt_go (n := 4) rfl (by omega) hn), fun _ => ⟨n_zin (by omega) (by decide), z, hself _ _ ⟨J1, rfl, rfl, fun a i c q => ?_, fun i hi => ?_⟩⟩⟩
    · rw [k1 a i c (by omega)]; exact hI a i c q
    · by_cases e : i = n
      · subst e; exact x1
      · rw [k1 _ _ _ (by omega)]; exact hd i (by omega)
  rintro Z M ⟨I7, rfl, rfl, c1, c2⟩ self
  dsimp only [x_int, x_lng, x_ild, x_lld, x_ald, x_ist, x_ast, x_lst, x_inc, x_ii, x_id, x_i, x_ll, x_ld, x_l, x_cmp, x_i2l, x_l2i, x_if, x_ic, x_dup, x_pop, x_dup2, x_gI, x_gL, x_gR, x_g1, x_g0, x_gP, x_pI, x_pZ, x_pL, x_pP, x_al, x_as, x_all, x_asl, x_alr, x_len, x_cpy, x_m2, x_m1, x_m2l, x_m1l, x_call, x_cv, x_ri, x_rz, x_rl, x_rv, zg, zset, zbef, zlong, zcat, cond_true, cond_false, List.take, List.drop, rv1, rv2, rv3, rv4, rv5, rv6, rv7, sm0, sm1, bl0, bl1, bl2, bl3, bl4, bl5, bl6, bl7, bl8, List.nil_append, List.cons_append, List.length_cons, List.length_nil, Nat.reduceBEq, Nat.reduceAdd, Nat.reduceSub, ta, tb, tn0, tn1, tn2, tn3, tn4, tn5, tn6, tn7, tn8, tn9, tn10, tn11, tn12]
  refine ⟨fun _ => ?_, fun q => absurd q (lt_out (n := 4) rfl)⟩
  refine zinv 10 (fun n Z M => ∃ I' : zI, Z = [some refR, some (.inl (nI b)), some (.inl (nI n))] ∧ M = (I', L, P) ∧ ony (fun a c => (79 ≤ a ∧ a ≤ 84) ∧ 10 * b ≤ c ∧ c < 10 * b + 10) I7 I' ∧ ∀ i, i < n → I' 79 0 (10 * b + i) = I 64 0 i ∧ I' 80 0 (10 * b + i) = I 65 0 i ∧ I' 81 0 (10 * b + i) = 0 ∧ I' 82 0 (10 * b + i) = -1 ∧ I' 83 0 (10 * b + i) = 0 ∧ I' 84 0 (10 * b + i) = 0) ?_ ?_ ⟨I7, rfl, rfl, ony.rf, fun i hi => by omega⟩
  · rintro n Z M hn ⟨I', rfl, rfl, hI, hd⟩ self hself
    have z : zin (nI (10 * b + n)) 20 := n_zin (by omega) (by decide)
    have zn : zin (nI n) 20 := n_zin (by omega) (by decide)
    have r64 : I' 64 0 n = I 64 0 n := by rw [hI.lo (a := 64) (by omega), c1.lo (a := 64) (by omega), a1.lo (a := 64) (by omega)]
    have r65 : I' 65 0 n = I 65 0 n := by rw [hI.lo (a := 65) (by omega), c1.lo (a := 65) (by omega), a1.lo (a := 65) (by omega)]
    dsimp only [x_int, x_lng, x_ild, x_lld, x_ald, x_ist, x_ast, x_lst, x_inc, x_ii, x_id, x_i, x_ll, x_ld, x_l, x_cmp, x_i2l, x_l2i, x_if, x_ic, x_dup, x_pop, x_dup2, x_gI, x_gL, x_gR, x_g1, x_g0, x_gP, x_pI, x_pZ, x_pL, x_pP, x_al, x_as, x_all, x_asl, x_alr, x_len, x_cpy, x_m2, x_m1, x_m2l, x_m1l, x_call, x_cv, x_ri, x_rz, x_rl, x_rv, zg, zset, zbef, zlong, zcat, cond_true, cond_false, List.take, List.drop, rv1, rv2, rv3, rv4, rv5, rv6, rv7, sm0, sm1, bl0, bl1, bl2, bl3, bl4, bl5, bl6, bl7, bl8, List.nil_append, List.cons_append, List.length_cons, List.length_nil, Nat.reduceBEq, Nat.reduceAdd, Nat.reduceSub, ta, tb, tn0, tn1, tn2, tn3, tn4, tn5, tn6, tn7, tn8, tn9, tn10, tn11, tn12, zk_79, zl_79, zk_80, zl_80, zk_81, zl_81, zk_82, zl_82, zk_83, zl_83, zk_84, zl_84, zk_64, zl_64, zk_65, zl_65]
    rw [n10, n_cl (n := 10 * b + n) (by omega), n_cl (n := n) (by omega), n_succ n, r64, nar0]
    obtain ⟨J1, g1, x1, k1⟩ := zsI_ex I' L P 79 0 (10 * b + n) (I 64 0 n)
    rw [g1]
    dsimp only
    rw [k1 65 0 n (by omega), r65]
    obtain ⟨J2, g2, x2, k2⟩ := zsI_ex J1 L P 80 0 (10 * b + n) (I 65 0 n)
    rw [g2]
    obtain ⟨J3, g3, x3, k3⟩ := zsI_ex J2 L P 81 0 (10 * b + n) 0
    rw [g3]
    obtain ⟨J4, g4, x4, k4⟩ := zsI_ex J3 L P 82 0 (10 * b + n) (-1)
    rw [g4]
    obtain ⟨J5, g5, x5, k5⟩ := zsI_ex J4 L P 83 0 (10 * b + n) 0
    rw [g5]
    obtain ⟨J6, g6, x6, k6⟩ := zsI_ex J5 L P 84 0 (10 * b + n) 0
    rw [g6]
    have back : ∀ a i c, ¬ (i = 0 ∧ (79 ≤ a ∧ a ≤ 84) ∧ c = 10 * b + n) → J6 a i c = I' a i c := fun a i c q => by
      rw [k6 a i c (by omega), k5 a i c (by omega), k4 a i c (by omega), k3 a i c (by omega), k2 a i c (by omega), k1 a i c (by omega)]
    refine ⟨fun q => absurd q (lt_go (n := 10) rfl (by omega) hn), fun _ => ⟨zn, z, zn, z, z, z, z, z, hself _ _ ⟨J6, rfl, rfl, fun a i c q => ?_, fun i hi => ?_⟩⟩⟩
    · rw [back a i c (by omega)]; exact hI a i c q
    · by_cases e : i = n
      · subst e
        refine ⟨?_, ?_, ?_, ?_, ?_, x6⟩
        · rw [k6 _ _ _ (by omega), k5 _ _ _ (by omega), k4 _ _ _ (by omega), k3 _ _ _ (by omega), k2 _ _ _ (by omega)]; exact x1
        · rw [k6 _ _ _ (by omega), k5 _ _ _ (by omega), k4 _ _ _ (by omega), k3 _ _ _ (by omega)]; exact x2
        · rw [k6 _ _ _ (by omega), k5 _ _ _ (by omega), k4 _ _ _ (by omega)]; exact x3
        · rw [k6 _ _ _ (by omega), k5 _ _ _ (by omega)]; exact x4
        · rw [k6 _ _ _ (by omega)]; exact x5
      · rw [back _ _ _ (by omega), back _ _ _ (by omega), back _ _ _ (by omega), back _ _ _ (by omega), back _ _ _ (by omega), back _ _ _ (by omega)]; exact hd i (by omega)
  rintro Z M ⟨I8, rfl, rfl, d1, d2⟩ self
  dsimp only [x_int, x_lng, x_ild, x_lld, x_ald, x_ist, x_ast, x_lst, x_inc, x_ii, x_id, x_i, x_ll, x_ld, x_l, x_cmp, x_i2l, x_l2i, x_if, x_ic, x_dup, x_pop, x_dup2, x_gI, x_gL, x_gR, x_g1, x_g0, x_gP, x_pI, x_pZ, x_pL, x_pP, x_al, x_as, x_all, x_asl, x_alr, x_len, x_cpy, x_m2, x_m1, x_m2l, x_m1l, x_call, x_cv, x_ri, x_rz, x_rl, x_rv, zg, zset, zbef, zlong, zcat, cond_true, cond_false, List.take, List.drop, rv1, rv2, rv3, rv4, rv5, rv6, rv7, sm0, sm1, bl0, bl1, bl2, bl3, bl4, bl5, bl6, bl7, bl8, List.nil_append, List.cons_append, List.length_cons, List.length_nil, Nat.reduceBEq, Nat.reduceAdd, Nat.reduceSub, ta, tb, tn0, tn1, tn2, tn3, tn4, tn5, tn6, tn7, tn8, tn9, tn10, tn11, tn12]
  refine ⟨fun _ => ?_, fun q => absurd q (lt_out (n := 10) rfl)⟩
  refine zinv 60 (fun n Z M => ∃ I' : zI, Z = [some refR, some (.inl (nI b)), some (.inl (nI n))] ∧ M = (I', L, P) ∧ ony (fun a c => a = 85 ∧ 60 * b ≤ c ∧ c < 60 * b + 60) I8 I' ∧ ∀ i, i < n → I' 85 0 (60 * b + i) = 0) ?_ ?_ ⟨I8, rfl, rfl, ony.rf, fun i hi => by omega⟩
  · rintro n Z M hn ⟨I', rfl, rfl, hI, hd⟩ self hself
    dsimp only [x_int, x_lng, x_ild, x_lld, x_ald, x_ist, x_ast, x_lst, x_inc, x_ii, x_id, x_i, x_ll, x_ld, x_l, x_cmp, x_i2l, x_l2i, x_if, x_ic, x_dup, x_pop, x_dup2, x_gI, x_gL, x_gR, x_g1, x_g0, x_gP, x_pI, x_pZ, x_pL, x_pP, x_al, x_as, x_all, x_asl, x_alr, x_len, x_cpy, x_m2, x_m1, x_m2l, x_m1l, x_call, x_cv, x_ri, x_rz, x_rl, x_rv, zg, zset, zbef, zlong, zcat, cond_true, cond_false, List.take, List.drop, rv1, rv2, rv3, rv4, rv5, rv6, rv7, sm0, sm1, bl0, bl1, bl2, bl3, bl4, bl5, bl6, bl7, bl8, List.nil_append, List.cons_append, List.length_cons, List.length_nil, Nat.reduceBEq, Nat.reduceAdd, Nat.reduceSub, ta, tb, tn0, tn1, tn2, tn3, tn4, tn5, tn6, tn7, tn8, tn9, tn10, tn11, tn12, zk_85, zl_85]
    rw [n60a, n_cl (n := 60 * b + n) (by omega), n_succ n]
    obtain ⟨J1, g1, x1, k1⟩ := zsI_ex I' L P 85 0 (60 * b + n) 0
    rw [g1]
    refine ⟨fun q => absurd q (lt_go (n := 60) rfl (by omega) hn), fun _ => ⟨n_zin (by omega) (by decide), hself _ _ ⟨J1, rfl, rfl, fun a i c q => ?_, fun i hi => ?_⟩⟩⟩
    · rw [k1 a i c (by omega)]; exact hI a i c q
    · by_cases e : i = n
      · subst e; exact x1
      · rw [k1 _ _ _ (by omega)]; exact hd i (by omega)
  rintro Z M ⟨I9, rfl, rfl, q1, q2⟩ self
  dsimp only [x_int, x_lng, x_ild, x_lld, x_ald, x_ist, x_ast, x_lst, x_inc, x_ii, x_id, x_i, x_ll, x_ld, x_l, x_cmp, x_i2l, x_l2i, x_if, x_ic, x_dup, x_pop, x_dup2, x_gI, x_gL, x_gR, x_g1, x_g0, x_gP, x_pI, x_pZ, x_pL, x_pP, x_al, x_as, x_all, x_asl, x_alr, x_len, x_cpy, x_m2, x_m1, x_m2l, x_m1l, x_call, x_cv, x_ri, x_rz, x_rl, x_rv, zg, zset, zbef, zlong, zcat, cond_true, cond_false, List.take, List.drop, rv1, rv2, rv3, rv4, rv5, rv6, rv7, sm0, sm1, bl0, bl1, bl2, bl3, bl4, bl5, bl6, bl7, bl8, List.nil_append, List.cons_append, List.length_cons, List.length_nil, Nat.reduceBEq, Nat.reduceAdd, Nat.reduceSub, ta, tb, tn0, tn1, tn2, tn3, tn4, tn5, tn6, tn7, tn8, tn9, tn10, tn11, tn12, zk_86, zl_86]
  rw [n_cl (n := b) (by omega)]
  obtain ⟨J1, g1, x1, k1⟩ := zsI_ex I9 L P 86 0 b 0
  rw [g1]
  refine ⟨fun _ => ⟨n_zin (by omega) (by decide), hK J1 (fun a i c q => ?_) ⟨fun i hi => ?_, fun i hi => ?_, fun i hi => ?_, fun i hi => ?_, x1⟩⟩, fun q => absurd q (lt_out (n := 60) rfl)⟩
  · unfold afK at q
    rw [k1 a i c (by omega), q1 a i c (by omega), d1 a i c (by omega), c1 a i c (by omega)]
    exact a1 a i c (by omega)
  · rw [k1 _ _ _ (by omega), q1.lo (by omega), d1.lo (by omega), c1.lo (by omega), k1 _ _ _ (by omega), q1.lo (by omega), d1.lo (by omega), c1.lo (by omega)]; exact a2 i hi
  · rw [k1 _ _ _ (by omega), q1.lo (by omega), d1.lo (by omega)]; exact c2 i hi
  · rw [k1 79 0 _ (by omega), q1.lo (a := 79) (by omega), k1 80 0 _ (by omega), q1.lo (a := 80) (by omega), k1 81 0 _ (by omega), q1.lo (a := 81) (by omega), k1 82 0 _ (by omega), q1.lo (a := 82) (by omega), k1 83 0 _ (by omega), q1.lo (a := 83) (by omega), k1 84 0 _ (by omega), q1.lo (a := 84) (by omega)]; exact d2 i hi
  · rw [k1 _ _ _ (by omega)]; exact q2 i hi
