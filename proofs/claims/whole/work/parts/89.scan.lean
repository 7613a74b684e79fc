-- the class: all tokens at once
theorem kos_le (c : Nat) : kos c ≤ 35 := by
  unfold kos
  repeat' split
  all_goals omega
theorem tkn_k (B : Nat → Nat) (n p : Nat) : (tkn B n p).1 ≤ 35 := by
  unfold tkn
  dsimp only
  generalize rn (fun q => isW (B q)) n p = s
  have := kow_le (pkC B s (rn (fun q => isL (B q)) n s - s))
  have := kos_le (B s)
  split
  · split
    · dsimp only; split <;> omega
    · split
      · dsimp only; omega
      · split
        · dsimp only; omega
        · split
          · dsimp only; split <;> omega
          · dsimp only; omega
  · dsimp only; omega
def TKm (B : Nat → Nat) (n m : Nat) (I : zI) : Prop := I 7 0 8 = nI (m + 1) ∧ ∀ i, i ≤ m → I 28 0 i = nI (kd B n i) ∧ I 29 0 i = nI (stn B n i) ∧ I 30 0 i = vl B n i
def cur (B : Nat → Nat) (n i : Nat) (I : zI) : Prop := I 7 0 7 = nI i ∧ I 7 0 9 = nI (kd B n i) ∧ I 7 0 10 = nI (stn B n i) ∧ I 7 0 11 = vl B n i
def frA (I I' : zI) : Prop := ∀ a b c, ¬ (a = 7 ∧ b = 0 ∧ (c = 7 ∨ c = 9 ∨ c = 10 ∨ c = 11)) → I' a b c = I a b c
theorem p_advance {K : zQ} {I : zI} {L : zJ} {P : zP} {B : Nat → Nat} {n m j : Nat} (hm : TKm B n m I) (hj : j ≤ m) (m7 : m ≤ 700) (hc : I 7 0 7 + 1 = nI j) (hK : ∀ I' : zI, frA I I' → cur B n j I' → K [] (I', L, P)) : mX7_advance K [scR] (I, L, P) := by
  obtain ⟨h1, h2⟩ := hm
  obtain ⟨t1, t2, t3⟩ := h2 j hj
  have zj : zin (nI j) 701 := n_zin (by omega) (by decide)
  show bX7_advance_0 K [some (.inr (.inr (7,0)))] [] (I, L, P)
  unfold bX7_advance_0
  dsimp only [x_int, x_lng, x_ild, x_lld, x_ald, x_ist, x_ast, x_lst, x_inc, x_ii, x_id, x_i, x_ll, x_ld, x_l, x_cmp, x_i2l, x_l2i, x_if, x_ic, x_dup, x_pop, x_dup2, x_gI, x_gL, x_gR, x_g1, x_g0, x_gP, x_pI, x_pZ, x_pL, x_pP, x_al, x_as, x_all, x_asl, x_alr, x_len, x_cpy, x_m2, x_m1, x_m2l, x_m1l, x_call, x_cv, x_ri, x_rz, x_rl, x_rv, zg, zset, zbef, zlong, zcat, cond_true, cond_false, List.take, List.drop, rv1, rv2, rv3, rv4, rv5, rv6, rv7, sm0, sm1, bl0, bl1, bl2, bl3, bl4, bl5, bl6, bl7, bl8, List.nil_append, List.cons_append, List.length_cons, List.length_nil, Nat.reduceBEq, Nat.reduceAdd, Nat.reduceSub, ta, tb, tn0, tn1, tn2, tn3, tn4, tn5, tn6, tn7, tn8, tn9, tn10, tn11, tn12, zk_28, zl_28, zk_29, zl_29, zk_30, zl_30, bX7_advance_62]
  rw [hc, h1]
  refine ⟨fun q => ?_, fun _ => ?_⟩
  · have q : nI (m + 1) ≤ nI j := q
    rw [n_le (by omega) (by omega)] at q
    omega
  obtain ⟨J1, e1, x1, k1⟩ := zsI_ex I L P 7 0 7 (nI j)
  rw [e1]
  dsimp only
  rw [x1, n_cl (n := j) (by omega), k1 28 0 j (by omega), t1]
  refine ⟨zj, ?_⟩
  obtain ⟨J2, e2, x2, k2⟩ := zsI_ex J1 L P 7 0 9 (nI (kd B n j))
  rw [e2]
  dsimp only
  rw [k2 7 0 7 (by decide), x1, n_cl (n := j) (by omega), k2 29 0 j (by omega), k1 29 0 j (by omega), t2]
  refine ⟨zj, ?_⟩
  obtain ⟨J3, e3, x3, k3⟩ := zsI_ex J2 L P 7 0 10 (nI (stn B n j))
  rw [e3]
  dsimp only
  rw [k3 7 0 7 (by decide), k2 7 0 7 (by decide), x1, n_cl (n := j) (by omega), k3 30 0 j (by omega), k2 30 0 j (by omega), k1 30 0 j (by omega), t3]
  refine ⟨zj, ?_⟩
  obtain ⟨J4, e4, x4, k4⟩ := zsI_ex J3 L P 7 0 11 (vl B n j)
  rw [e4]
  refine hK J4 (fun a b c q => ?_) ⟨?_, ?_, ?_, x4⟩
  · rw [k4 a b c (by omega), k3 a b c (by omega), k2 a b c (by omega), k1 a b c (by omega)]
  · rw [k4 _ _ _ (by decide), k3 _ _ _ (by decide), k2 _ _ _ (by decide)]; exact x1
  · rw [k4 _ _ _ (by decide), k3 _ _ _ (by decide)]; exact x2
  · rw [k4 _ _ _ (by decide)]; exact x3
def frT (I I' : zI) : Prop := ∀ a b c, ¬ (b = 0 ∧ (a = 7 ∨ a = 28 ∨ a = 29 ∨ a = 30)) → I' a b c = I a b c
theorem p_scan {K : zQ} {I : zI} {L : zJ} {P : zP} {B : Nat → Nat} {n m : Nat} (hB : ∀ i, i < n → B i < 256) (he : endA B n m) (n7 : n ≤ 700) (ht : ∀ i, i < n → I 47 0 i &&& 255 = nI (B i)) (hw : RCw I) (hK : ∀ (I' : zI) (P' : zP), frT I I' → (∀ a b c, ¬ a = 7 → P' a b c = P a b c) → TKm B n m I' → cur B n 0 I' → K [] (I', L, P')) : mX7_scan K [scR, .inr (.inr (47, 0)), .inl (nI n)] (I, L, P) := by
  obtain ⟨m1, m2, m3⟩ := he
  show bX7_scan_0 K [some (.inr (.inr (7,0))), some (.inr (.inr (47,0))), some (.inl (nI n)), none] [] (I, L, P)
  unfold bX7_scan_0
  dsimp only [x_int, x_lng, x_ild, x_lld, x_ald, x_ist, x_ast, x_lst, x_inc, x_ii, x_id, x_i, x_ll, x_ld, x_l, x_cmp, x_i2l, x_l2i, x_if, x_ic, x_dup, x_pop, x_dup2, x_gI, x_gL, x_gR, x_g1, x_g0, x_gP, x_pI, x_pZ, x_pL, x_pP, x_al, x_as, x_all, x_asl, x_alr, x_len, x_cpy, x_m2, x_m1, x_m2l, x_m1l, x_call, x_cv, x_ri, x_rz, x_rl, x_rv, zg, zset, zbef, zlong, zcat, cond_true, cond_false, List.take, List.drop, rv1, rv2, rv3, rv4, rv5, rv6, rv7, sm0, sm1, bl0, bl1, bl2, bl3, bl4, bl5, bl6, bl7, bl8, List.nil_append, List.cons_append, List.length_cons, List.length_nil, Nat.reduceBEq, Nat.reduceAdd, Nat.reduceSub, ta, tb, tn0, tn1, tn2, tn3, tn4, tn5, tn6, tn7, tn8, tn9, tn10, tn11, tn12]
  have e700 : (if nI 700 < nI n then nI 700 else nI n) = nI n := by
    rw [if_neg]
    rw [n_lt (by omega) (by omega)]; omega
  have e701 : (if nI n < nI 700 then nI n else nI 700) = nI n := by
    by_cases z : n = 700
    · subst z; rw [if_neg (by decide)]
    · rw [if_pos]
      rw [n_lt (by omega) (by omega)]; omega
  obtain ⟨P1, eP, wP, fP⟩ := zsP_ex I L P 7 0 4 0
  rw [eP]
  show bX7_scan_39 K [some scR, some (.inr (.inr (47, 0))), some (.inl (nI n)), some (.inl 0)] [] (zsI (zsI (zsI (zsI (I, L, P1) 7 0 5 (if (if nI 700 < nI n then nI 700 else nI n) < nI 700 then (if nI 700 < nI n then nI 700 else nI n) else nI 700)) 7 0 6 0) 7 0 8 0) 7 0 9 19)
  rw [e700, e701]
  obtain ⟨J1, e1, x1, k1⟩ := zsI_ex I L P1 7 0 5 (nI n)
  rw [e1]
  obtain ⟨J2, e2, x2, k2⟩ := zsI_ex J1 L P1 7 0 6 0
  rw [e2]
  obtain ⟨J3, e3, x3, k3⟩ := zsI_ex J2 L P1 7 0 8 0
  rw [e3]
  obtain ⟨J4, e4, x4, k4⟩ := zsI_ex J3 L P1 7 0 9 19
  rw [e4]
  have F4 : frT I J4 := fun a b c q => by rw [k4 a b c (by omega), k3 a b c (by omega), k2 a b c (by omega), k1 a b c (by omega)]
  have out : ∀ (I' : zI) (zs : zL), frT I I' → TKm B n m I' → bX7_scan_106 K (some scR :: zs) [] (I', L, P1) := fun I' zs q1 q2 => by
    unfold bX7_scan_106
    dsimp only [x_int, x_lng, x_ild, x_lld, x_ald, x_ist, x_ast, x_lst, x_inc, x_ii, x_id, x_i, x_ll, x_ld, x_l, x_cmp, x_i2l, x_l2i, x_if, x_ic, x_dup, x_pop, x_dup2, x_gI, x_gL, x_gR, x_g1, x_g0, x_gP, x_pI, x_pZ, x_pL, x_pP, x_al, x_as, x_all, x_asl, x_alr, x_len, x_cpy, x_m2, x_m1, x_m2l, x_m1l, x_call, x_cv, x_ri, x_rz, x_rl, x_rv, zg, zset, zbef, zlong, zcat, cond_true, cond_false, List.take, List.drop, rv1, rv2, rv3, rv4, rv5, rv6, rv7, sm0, sm1, bl0, bl1, bl2, bl3, bl4, bl5, bl6, bl7, bl8, List.nil_append, List.cons_append, List.length_cons, List.length_nil, Nat.reduceBEq, Nat.reduceAdd, Nat.reduceSub, ta, tb, tn0, tn1, tn2, tn3, tn4, tn5, tn6, tn7, tn8, tn9, tn10, tn11, tn12]
    obtain ⟨J, e, x, k⟩ := zsI_ex I' L P1 7 0 7 (-1)
    rw [e]
    refine p_advance (B := B) (n := n) (m := m) (j := 0) ⟨(k _ _ _ (by decide)).trans q2.1, fun i hi => ?_⟩ (by omega) (by omega) (by rw [x]; decide) (fun I2 f2 c2 => ?_)
    · rw [k 28 0 i (by omega), k 29 0 i (by omega), k 30 0 i (by omega)]; exact q2.2 i hi
    · dsimp only [x_int, x_lng, x_ild, x_lld, x_ald, x_ist, x_ast, x_lst, x_inc, x_ii, x_id, x_i, x_ll, x_ld, x_l, x_cmp, x_i2l, x_l2i, x_if, x_ic, x_dup, x_pop, x_dup2, x_gI, x_gL, x_gR, x_g1, x_g0, x_gP, x_pI, x_pZ, x_pL, x_pP, x_al, x_as, x_all, x_asl, x_alr, x_len, x_cpy, x_m2, x_m1, x_m2l, x_m1l, x_call, x_cv, x_ri, x_rz, x_rl, x_rv, zg, zset, zbef, zlong, zcat, cond_true, cond_false, List.take, List.drop, rv1, rv2, rv3, rv4, rv5, rv6, rv7, sm0, sm1, bl0, bl1, bl2, bl3, bl4, bl5, bl6, bl7, bl8, List.nil_append, List.cons_append, List.length_cons, List.length_nil, Nat.reduceBEq, Nat.reduceAdd, Nat.reduceSub, ta, tb, tn0, tn1, tn2, tn3, tn4, tn5, tn6, tn7, tn8, tn9, tn10, tn11, tn12]
      refine hK I2 P1 (fun a b c q => ?_) (fun a b c q => fP a b c (fun z => q z.1)) ⟨?_, fun i hi => ?_⟩ c2
      · rw [f2 a b c (by omega), k a b c (by omega)]; exact q1 a b c q
      · rw [f2 _ _ _ (by decide), k _ _ _ (by decide)]; exact q2.1
      · rw [f2 28 0 i (by omega), f2 29 0 i (by omega), f2 30 0 i (by omega), k 28 0 i (by omega), k 29 0 i (by omega), k 30 0 i (by omega)]; exact q2.2 i hi
  refine zinv (m + 1) (fun i Z M => ∃ I' : zI, Z = [some scR, some (.inr (.inr (47, 0))), some (.inl (nI n)), some (.inl (nI i))] ∧ M = (I', L, P1) ∧ frT I I' ∧ I' 7 0 5 = nI n ∧ I' 7 0 6 = nI (ps B n i) ∧ I' 7 0 8 = nI i ∧ I' 7 0 9 = nI (if i = 0 then 19 else kd B n (i - 1)) ∧ ∀ j, j < i → I' 28 0 j = nI (kd B n j) ∧ I' 29 0 j = nI (stn B n j) ∧ I' 30 0 j = vl B n j) ?_ ?_ ⟨J4, rfl, rfl, F4, ?_, ?_, ?_, x4, fun j hj => by omega⟩
  · rintro i Z M hi ⟨I', rfl, rfl, q1, q2, q3, q4, q5, q6⟩ self hself
    have hS : SCx B n I' P1 := ⟨q2, wP, n7, fun j hj => ⟨by rw [q1 47 0 j (by omega)]; exact ht j hj, hB j hj⟩⟩
    have hw' : RCw I' := fun j hj => (q1 27 0 j (by omega)).trans (hw j hj)
    have kb : (if i = 0 then 19 else kd B n (i - 1)) < 1000 ∧ ¬ (if i = 0 then 19 else kd B n (i - 1)) = 34 := by
      by_cases z : i = 0
      · rw [if_pos z]; omega
      · rw [if_neg z]
        have : kd B n (i - 1) ≤ 35 := tkn_k B n (ps B n (i - 1))
        exact ⟨by omega, m3 (i - 1) (by omega)⟩
    dsimp only [x_int, x_lng, x_ild, x_lld, x_ald, x_ist, x_ast, x_lst, x_inc, x_ii, x_id, x_i, x_ll, x_ld, x_l, x_cmp, x_i2l, x_l2i, x_if, x_ic, x_dup, x_pop, x_dup2, x_gI, x_gL, x_gR, x_g1, x_g0, x_gP, x_pI, x_pZ, x_pL, x_pP, x_al, x_as, x_all, x_asl, x_alr, x_len, x_cpy, x_m2, x_m1, x_m2l, x_m1l, x_call, x_cv, x_ri, x_rz, x_rl, x_rv, zg, zset, zbef, zlong, zcat, cond_true, cond_false, List.take, List.drop, rv1, rv2, rv3, rv4, rv5, rv6, rv7, sm0, sm1, bl0, bl1, bl2, bl3, bl4, bl5, bl6, bl7, bl8, List.nil_append, List.cons_append, List.length_cons, List.length_nil, Nat.reduceBEq, Nat.reduceAdd, Nat.reduceSub, ta, tb, tn0, tn1, tn2, tn3, tn4, tn5, tn6, tn7, tn8, tn9, tn10, tn11, tn12]
    rw [q2, q5]
    refine ⟨fun q => ?_, fun _ => ⟨fun q => ?_, fun _ => p_cut hS hw' (ps_le hB i) q3 (fun I2 f2 c1 c2 c3 c4 => ?_)⟩⟩
    · have q : nI n < nI i := q
      rw [n_lt (by omega) (by omega)] at q
      omega
    · have q : nI (if i = 0 then 19 else kd B n (i - 1)) = nI 34 := q
      rw [n_eq (by omega) (by omega)] at q
      exact absurd q kb.2
    dsimp only [x_int, x_lng, x_ild, x_lld, x_ald, x_ist, x_ast, x_lst, x_inc, x_ii, x_id, x_i, x_ll, x_ld, x_l, x_cmp, x_i2l, x_l2i, x_if, x_ic, x_dup, x_pop, x_dup2, x_gI, x_gL, x_gR, x_g1, x_g0, x_gP, x_pI, x_pZ, x_pL, x_pP, x_al, x_as, x_all, x_asl, x_alr, x_len, x_cpy, x_m2, x_m1, x_m2l, x_m1l, x_call, x_cv, x_ri, x_rz, x_rl, x_rv, zg, zset, zbef, zlong, zcat, cond_true, cond_false, List.take, List.drop, rv1, rv2, rv3, rv4, rv5, rv6, rv7, sm0, sm1, bl0, bl1, bl2, bl3, bl4, bl5, bl6, bl7, bl8, List.nil_append, List.cons_append, List.length_cons, List.length_nil, Nat.reduceBEq, Nat.reduceAdd, Nat.reduceSub, ta, tb, tn0, tn1, tn2, tn3, tn4, tn5, tn6, tn7, tn8, tn9, tn10, tn11, tn12, zk_28, zl_28, zk_29, zl_29, zk_30, zl_30]
    have zi : zin (nI i) 701 := n_zin (by omega) (by decide)
    rw [n_cl (n := i) (by omega), c1]
    obtain ⟨A1, g1, y1, h1⟩ := zsI_ex I2 L P1 28 0 i (nI (kd B n i))
    rw [g1]
    dsimp only
    rw [h1 7 0 _ (by omega), c3]
    obtain ⟨A2, g2, y2, h2⟩ := zsI_ex A1 L P1 29 0 i (nI (stn B n i))
    rw [g2]
    dsimp only
    rw [h2 7 0 _ (by omega), h1 7 0 _ (by omega), c2]
    obtain ⟨A3, g3, y3, h3⟩ := zsI_ex A2 L P1 30 0 i (vl B n i)
    rw [g3]
    dsimp only
    rw [h3 7 0 _ (by omega), h2 7 0 _ (by omega), h1 7 0 _ (by omega), f2 7 0 8 (by decide), q4, n_succ i]
    obtain ⟨A4, g4, y4, h4⟩ := zsI_ex A3 L P1 7 0 8 (nI (i + 1))
    rw [g4]
    have b7 : ∀ c, ¬ c = 8 → A4 7 0 c = I2 7 0 c := fun c z => by rw [h4 7 0 c (by omega), h3 7 0 c (by omega), h2 7 0 c (by omega), h1 7 0 c (by omega)]
    refine ⟨zi, zi, zi, hself _ _ ⟨A4, rfl, rfl, fun a b c q => ?_, ?_, ?_, y4, ?_, fun j hj => ?_⟩⟩
    · rw [h4 a b c (by omega), h3 a b c (by omega), h2 a b c (by omega), h1 a b c (by omega), f2 a b c (by omega)]; exact q1 a b c q
    · rw [b7 _ (by decide), f2 _ _ _ (by decide)]; exact q2
    · rw [b7 _ (by decide), c4]; rfl
    · rw [b7 _ (by decide), c1, if_neg (by omega)]; rfl
    · by_cases e : j = i
      · subst e
        refine ⟨?_, ?_, ?_⟩
        · rw [h4 _ _ _ (by omega), h3 _ _ _ (by omega), h2 _ _ _ (by omega)]; exact y1
        · rw [h4 _ _ _ (by omega), h3 _ _ _ (by omega)]; exact y2
        · rw [h4 _ _ _ (by omega)]; exact y3
      · rw [h4 28 0 j (by omega), h3 28 0 j (by omega), h2 28 0 j (by omega), h1 28 0 j (by omega), f2 28 0 j (by omega), h4 29 0 j (by omega), h3 29 0 j (by omega), h2 29 0 j (by omega), h1 29 0 j (by omega), f2 29 0 j (by omega), h4 30 0 j (by omega), h3 30 0 j (by omega), h2 30 0 j (by omega), h1 30 0 j (by omega), f2 30 0 j (by omega)]
        exact q6 j (by omega)
  · rintro Z M ⟨I', rfl, rfl, q1, q2, q3, q4, q5, q6⟩ self
    rw [if_neg (by omega), show m + 1 - 1 = m by omega, m2] at q5
    have tk : TKm B n m I' := ⟨q4, fun i hi => q6 i (by omega)⟩
    dsimp only [x_int, x_lng, x_ild, x_lld, x_ald, x_ist, x_ast, x_lst, x_inc, x_ii, x_id, x_i, x_ll, x_ld, x_l, x_cmp, x_i2l, x_l2i, x_if, x_ic, x_dup, x_pop, x_dup2, x_gI, x_gL, x_gR, x_g1, x_g0, x_gP, x_pI, x_pZ, x_pL, x_pP, x_al, x_as, x_all, x_asl, x_alr, x_len, x_cpy, x_m2, x_m1, x_m2l, x_m1l, x_call, x_cv, x_ri, x_rz, x_rl, x_rv, zg, zset, zbef, zlong, zcat, cond_true, cond_false, List.take, List.drop, rv1, rv2, rv3, rv4, rv5, rv6, rv7, sm0, sm1, bl0, bl1, bl2, bl3, bl4, bl5, bl6, bl7, bl8, List.nil_append, List.cons_append, List.length_cons, List.length_nil, Nat.reduceBEq, Nat.reduceAdd, Nat.reduceSub, ta, tb, tn0, tn1, tn2, tn3, tn4, tn5, tn6, tn7, tn8, tn9, tn10, tn11, tn12]
    rw [q5]
    exact ⟨fun _ => out I' _ q1 tk, fun _ => ⟨fun _ => out I' _ q1 tk, fun z => absurd rfl z⟩⟩
  · rw [k4 _ _ _ (by decide), k3 _ _ _ (by decide), k2 _ _ _ (by decide)]; exact x1
  · rw [k4 _ _ _ (by decide), k3 _ _ _ (by decide)]; exact x2
  · rw [k4 _ _ _ (by decide)]; exact x3
