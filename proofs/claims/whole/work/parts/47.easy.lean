theorem zeLr.rf {L : zJ} : zeLr L L := fun _ _ _ _ _ => rfl
theorem zeL2.rf {L : zJ} : zeL2 L L := fun _ _ _ _ _ => rfl
-- fault
def v_fault (A : aA) (w : Int32) : Int32 := if w = 0 then A.ft.1 else if w = 1 then A.ft.2 else -1
theorem c_fault {K : zQ} {I : zI} {L : zJ} {P : zP} {A : aA} {w : Int32} (hC : RC A I P) (hk : K [.inl (v_fault A w)] (I, L, P)) : mX11_fault K [kbR, .inl w] (I, L, P) := by
  obtain ⟨t, -, -, -, -, -, -, -, hf, -⟩ := hC
  unfold v_fault at hk
  show bX11_fault_0 K [some (.inr (.inr (11,0))), some (.inl w)] [] (I, L, P)
  unfold bX11_fault_0
  dsimp only [x_int, x_lng, x_ild, x_lld, x_ald, x_ist, x_ast, x_lst, x_inc, x_ii, x_id, x_i, x_ll, x_ld, x_l, x_cmp, x_i2l, x_l2i, x_if, x_ic, x_dup, x_pop, x_dup2, x_gI, x_gL, x_gR, x_g1, x_g0, x_gP, x_pI, x_pZ, x_pL, x_pP, x_al, x_as, x_all, x_asl, x_alr, x_len, x_cpy, x_m2, x_m1, x_m2l, x_m1l, x_call, x_cv, x_ri, x_rz, x_rl, x_rv, zg, zset, zbef, zlong, zcat, cond_true, cond_false, List.take, List.drop, rv1, rv2, rv3, rv4, rv5, rv6, rv7, sm0, sm1, bl0, bl1, bl2, bl3, bl4, bl5, bl6, bl7, bl8, List.nil_append, List.cons_append, List.length_cons, List.length_nil, Nat.reduceBEq, Nat.reduceAdd, Nat.reduceSub, ta, tb, tn0, tn1, tn2, tn3, tn4, tn5, tn6, tn7, tn8, tn9, tn10, tn11, tn12, g_sw]
  rw [hf.1, hf.2]
  refine ⟨fun e => ?_, fun e => ⟨fun e1 => ?_, fun e1 => ?_⟩⟩
  · rw [if_pos e] at hk; exact hk
  · rw [if_neg e, if_pos e1] at hk; exact hk
  · rw [if_neg e, if_neg e1] at hk; exact hk
theorem r_fault {K : zQ} {I : zI} {L : zJ} {P : zP} {A : aA} {w : Int32} (hR : RR A I L) (hK : ∀ (I' : zI) (L' : zJ), frR I I' → zeLr L L' → K [.inl (v_fault A w)] (I', L', P)) : mX12_fault K [refR, .inl w] (I, L, P) := by
  show bX12_fault_0 K [some (.inr (.inr (12,0))), some (.inl w)] [] (I, L, P)
  unfold bX12_fault_0
  obtain ⟨I1, e9, hR1, f1⟩ := r_thr P hR
  dsimp only [x_ald, x_int, x_pI, zg, Nat.reduceBEq, cond_true]
  rw [e9]
  have hk := hK I1 L f1 zeLr.rf
  unfold v_fault at hk
  have hf := hR1.2.2.2.2.2.2.2.2.2.1
  dsimp only [x_int, x_lng, x_ild, x_lld, x_ald, x_ist, x_ast, x_lst, x_inc, x_ii, x_id, x_i, x_ll, x_ld, x_l, x_cmp, x_i2l, x_l2i, x_if, x_ic, x_dup, x_pop, x_dup2, x_gI, x_gL, x_gR, x_g1, x_g0, x_gP, x_pI, x_pZ, x_pL, x_pP, x_al, x_as, x_all, x_asl, x_alr, x_len, x_cpy, x_m2, x_m1, x_m2l, x_m1l, x_call, x_cv, x_ri, x_rz, x_rl, x_rv, zg, zset, zbef, zlong, zcat, cond_true, cond_false, List.take, List.drop, rv1, rv2, rv3, rv4, rv5, rv6, rv7, sm0, sm1, bl0, bl1, bl2, bl3, bl4, bl5, bl6, bl7, bl8, List.nil_append, List.cons_append, List.length_cons, List.length_nil, Nat.reduceBEq, Nat.reduceAdd, Nat.reduceSub, ta, tb, tn0, tn1, tn2, tn3, tn4, tn5, tn6, tn7, tn8, tn9, tn10, tn11, tn12, bX12_fault_29]
  rw [hf.1, hf.2]
  refine ⟨fun e => ?_, fun e => ⟨fun e1 => ?_, fun e1 => ?_⟩⟩
  · rw [if_pos e] at hk; exact hk
  · rw [if_neg e, if_pos e1] at hk; exact hk
  · rw [if_neg e, if_neg e1] at hk; exact hk
-- named
def fnd (f : Nat → Int32) (x : Int32) : Nat → Option Nat
  | 0 => none
  | n + 1 => match fnd f x n with
    | some i => some i
    | none => if f n = x then some n else none
theorem fnd_lt {f : Nat → Int32} {x : Int32} {n i : Nat} (h : fnd f x n = some i) : i < n := by
  induction n generalizing i with
  | zero => cases h
  | succ n ih =>
    unfold fnd at h
    cases e : fnd f x n with
    | some j => rw [e] at h; cases h; have := ih e; omega
    | none =>
      rw [e] at h
      dsimp only at h
      split at h
      · cases h; omega
      · cases h
theorem fnd_some {f : Nat → Int32} {x : Int32} {i : Nat} : ∀ n, fnd f x i = none → f i = x → i < n → fnd f x n = some i := by
  intro n h1 h2
  induction n with
  | zero => intro h; omega
  | succ n ih =>
    intro h
    unfold fnd
    by_cases e : i < n
    · rw [ih e]
    · have e : i = n := by omega
      subst e
      rw [h1]
      exact if_pos h2
theorem fnd_succ {f : Nat → Int32} {x : Int32} {n : Nat} (h : fnd f x n = none) (h2 : ¬ f n = x) : fnd f x (n + 1) = none := by
  unfold fnd
  rw [h]
  exact if_neg h2
theorem p_handOf {K : zQ} {I : zI} {L : zJ} {P : zP} {t : Nat} {T : aT} {x : Int32} (ht : t < 2) (hn : I 9 t 4 = nI (T.1 0)) (h6 : T.1 0 ≤ 6) (hf : ∀ i, i < T.1 0 → I 1 (6 * t + i) 2 = T.2.1 0 i) (hK : K [.inl (wbR (fnd (T.2.1 0) x (T.1 0)))] (I, L, P)) : mX9_handOf K [.inr (.inr (9, t)), .inl x] (I, L, P) := by
  show bX9_handOf_2 K [some (.inr (.inr (9, t))), some (.inl x), some (.inl 0)] [] (I, L, P)
  refine zinv (T.1 0) (fun i Z M => Z = [some (.inr (.inr (9, t))), some (.inl x), some (.inl (nI i))] ∧ M = (I, L, P) ∧ fnd (T.2.1 0) x i = none) ?_ ?_ ⟨rfl, rfl, rfl⟩
  · rintro i Z M hi ⟨rfl, rfl, hno⟩ self hself
    dsimp only [x_int, x_lng, x_ild, x_lld, x_ald, x_ist, x_ast, x_lst, x_inc, x_ii, x_id, x_i, x_ll, x_ld, x_l, x_cmp, x_i2l, x_l2i, x_if, x_ic, x_dup, x_pop, x_dup2, x_gI, x_gL, x_gR, x_g1, x_g0, x_gP, x_pI, x_pZ, x_pL, x_pP, x_al, x_as, x_all, x_asl, x_alr, x_len, x_cpy, x_m2, x_m1, x_m2l, x_m1l, x_call, x_cv, x_ri, x_rz, x_rl, x_rv, zg, zset, zbef, zlong, zcat, cond_true, cond_false, List.take, List.drop, rv1, rv2, rv3, rv4, rv5, rv6, rv7, sm0, sm1, bl0, bl1, bl2, bl3, bl4, bl5, bl6, bl7, bl8, List.nil_append, List.cons_append, List.length_cons, List.length_nil, Nat.reduceBEq, Nat.reduceAdd, Nat.reduceSub, ta, tb, tn0, tn1, tn2, tn3, tn4, tn5, tn6, tn7, tn8, tn9, tn10, tn11, tn12, zl_43]
    rw [n_cl (n := i) (by omega), hf i hi, n_succ i]
    refine ⟨fun c => absurd c (lt_go hn (by omega) hi), fun _ => ⟨n_zin (by omega) (by decide), fun c => ?_, fun c => hself _ _ ⟨rfl, rfl, fnd_succ hno c⟩⟩⟩
    rw [fnd_some _ hno c hi] at hK
    exact hK
  · rintro Z M ⟨rfl, rfl, hno⟩ self
    dsimp only [x_int, x_lng, x_ild, x_lld, x_ald, x_ist, x_ast, x_lst, x_inc, x_ii, x_id, x_i, x_ll, x_ld, x_l, x_cmp, x_i2l, x_l2i, x_if, x_ic, x_dup, x_pop, x_dup2, x_gI, x_gL, x_gR, x_g1, x_g0, x_gP, x_pI, x_pZ, x_pL, x_pP, x_al, x_as, x_all, x_asl, x_alr, x_len, x_cpy, x_m2, x_m1, x_m2l, x_m1l, x_call, x_cv, x_ri, x_rz, x_rl, x_rv, zg, zset, zbef, zlong, zcat, cond_true, cond_false, List.take, List.drop, rv1, rv2, rv3, rv4, rv5, rv6, rv7, sm0, sm1, bl0, bl1, bl2, bl3, bl4, bl5, bl6, bl7, bl8, List.nil_append, List.cons_append, List.length_cons, List.length_nil, Nat.reduceBEq, Nat.reduceAdd, Nat.reduceSub, ta, tb, tn0, tn1, tn2, tn3, tn4, tn5, tn6, tn7, tn8, tn9, tn10, tn11, tn12]
    rw [hno] at hK
    exact ⟨fun _ => hK, fun c => absurd c (lt_out hn)⟩
theorem p_woodOf {K : zQ} {I : zI} {L : zJ} {P : zP} {t : Nat} {T : aT} {x : Int32} (ht : t < 2) (hn : I 9 t 5 = nI (T.1 1)) (h6 : T.1 1 ≤ 4) (hf : ∀ i, i < T.1 1 → I 10 (4 * t + i) 0 = T.2.1 4 i) (hK : K [.inl (wbR (fnd (T.2.1 4) x (T.1 1)))] (I, L, P)) : mX9_woodOf K [.inr (.inr (9, t)), .inl x] (I, L, P) := by
  show bX9_woodOf_2 K [some (.inr (.inr (9, t))), some (.inl x), some (.inl 0)] [] (I, L, P)
  refine zinv (T.1 1) (fun i Z M => Z = [some (.inr (.inr (9, t))), some (.inl x), some (.inl (nI i))] ∧ M = (I, L, P) ∧ fnd (T.2.1 4) x i = none) ?_ ?_ ⟨rfl, rfl, rfl⟩
  · rintro i Z M hi ⟨rfl, rfl, hno⟩ self hself
    dsimp only [x_int, x_lng, x_ild, x_lld, x_ald, x_ist, x_ast, x_lst, x_inc, x_ii, x_id, x_i, x_ll, x_ld, x_l, x_cmp, x_i2l, x_l2i, x_if, x_ic, x_dup, x_pop, x_dup2, x_gI, x_gL, x_gR, x_g1, x_g0, x_gP, x_pI, x_pZ, x_pL, x_pP, x_al, x_as, x_all, x_asl, x_alr, x_len, x_cpy, x_m2, x_m1, x_m2l, x_m1l, x_call, x_cv, x_ri, x_rz, x_rl, x_rv, zg, zset, zbef, zlong, zcat, cond_true, cond_false, List.take, List.drop, rv1, rv2, rv3, rv4, rv5, rv6, rv7, sm0, sm1, bl0, bl1, bl2, bl3, bl4, bl5, bl6, bl7, bl8, List.nil_append, List.cons_append, List.length_cons, List.length_nil, Nat.reduceBEq, Nat.reduceAdd, Nat.reduceSub, ta, tb, tn0, tn1, tn2, tn3, tn4, tn5, tn6, tn7, tn8, tn9, tn10, tn11, tn12, zl_44]
    rw [n_cl (n := i) (by omega), hf i hi, n_succ i]
    refine ⟨fun c => absurd c (lt_go hn (by omega) hi), fun _ => ⟨n_zin (by omega) (by decide), fun c => ?_, fun c => hself _ _ ⟨rfl, rfl, fnd_succ hno c⟩⟩⟩
    rw [fnd_some _ hno c hi] at hK
    exact hK
  · rintro Z M ⟨rfl, rfl, hno⟩ self
    dsimp only [x_int, x_lng, x_ild, x_lld, x_ald, x_ist, x_ast, x_lst, x_inc, x_ii, x_id, x_i, x_ll, x_ld, x_l, x_cmp, x_i2l, x_l2i, x_if, x_ic, x_dup, x_pop, x_dup2, x_gI, x_gL, x_gR, x_g1, x_g0, x_gP, x_pI, x_pZ, x_pL, x_pP, x_al, x_as, x_all, x_asl, x_alr, x_len, x_cpy, x_m2, x_m1, x_m2l, x_m1l, x_call, x_cv, x_ri, x_rz, x_rl, x_rv, zg, zset, zbef, zlong, zcat, cond_true, cond_false, List.take, List.drop, rv1, rv2, rv3, rv4, rv5, rv6, rv7, sm0, sm1, bl0, bl1, bl2, bl3, bl4, bl5, bl6, bl7, bl8, List.nil_append, List.cons_append, List.length_cons, List.length_nil, Nat.reduceBEq, Nat.reduceAdd, Nat.reduceSub, ta, tb, tn0, tn1, tn2, tn3, tn4, tn5, tn6, tn7, tn8, tn9, tn10, tn11, tn12]
    rw [hno] at hK
    exact ⟨fun _ => hK, fun c => absurd c (lt_out hn)⟩
theorem p_find {K : zQ} {I : zI} {L : zJ} {P : zP} {ka o n : Nat} {f : Nat → Int32} {x : Int32} (hka : (zsrt ka == 1 && zaux ka == 0) = true) (hl : o + n ≤ zlen ka) (hl2 : zlen ka < 2147483648) (hf : ∀ i, i < n → I ka 0 (o + i) = f i) (hK : K [.inl (wbR (fnd f x n))] (I, L, P)) : mX12_find K [.inr (.inr (ka, 0)), .inl (nI o), .inl (nI n), .inl x] (I, L, P) := by
  show bX12_find_3 K [some (.inr (.inr (ka, 0))), some (.inl (nI o)), some (.inl (nI n)), some (.inl x), some (.inl 0)] [] (I, L, P)
  refine zinv n (fun i Z M => Z = [some (.inr (.inr (ka, 0))), some (.inl (nI o)), some (.inl (nI n)), some (.inl x), some (.inl (nI i))] ∧ M = (I, L, P) ∧ fnd f x i = none) ?_ ?_ ⟨rfl, rfl, rfl⟩
  · rintro i Z M hi ⟨rfl, rfl, hno⟩ self hself
    dsimp only [x_int, x_lng, x_ild, x_lld, x_ald, x_ist, x_ast, x_lst, x_inc, x_ii, x_id, x_i, x_ll, x_ld, x_l, x_cmp, x_i2l, x_l2i, x_if, x_ic, x_dup, x_pop, x_dup2, x_gI, x_gL, x_gR, x_g1, x_g0, x_gP, x_pI, x_pZ, x_pL, x_pP, x_al, x_as, x_all, x_asl, x_alr, x_len, x_cpy, x_m2, x_m1, x_m2l, x_m1l, x_call, x_cv, x_ri, x_rz, x_rl, x_rv, zg, zset, zbef, zlong, zcat, cond_true, cond_false, List.take, List.drop, rv1, rv2, rv3, rv4, rv5, rv6, rv7, sm0, sm1, bl0, bl1, bl2, bl3, bl4, bl5, bl6, bl7, bl8, List.nil_append, List.cons_append, List.length_cons, List.length_nil, Nat.reduceBEq, Nat.reduceAdd, Nat.reduceSub, ta, tb, tn0, tn1, tn2, tn3, tn4, tn5, tn6, tn7, tn8, tn9, tn10, tn11, tn12]
    rw [hka, n_add, n_cl (n := o + i) (by omega), hf i hi, n_succ i]
    refine ⟨fun c => absurd c (lt_go rfl (by omega) hi), fun _ => ⟨n_zin (by omega) (by omega), fun c => ?_, fun c => hself _ _ ⟨rfl, rfl, fnd_succ hno c⟩⟩⟩
    rw [fnd_some _ hno c hi] at hK
    exact hK
  · rintro Z M ⟨rfl, rfl, hno⟩ self
    dsimp only [x_int, x_lng, x_ild, x_lld, x_ald, x_ist, x_ast, x_lst, x_inc, x_ii, x_id, x_i, x_ll, x_ld, x_l, x_cmp, x_i2l, x_l2i, x_if, x_ic, x_dup, x_pop, x_dup2, x_gI, x_gL, x_gR, x_g1, x_g0, x_gP, x_pI, x_pZ, x_pL, x_pP, x_al, x_as, x_all, x_asl, x_alr, x_len, x_cpy, x_m2, x_m1, x_m2l, x_m1l, x_call, x_cv, x_ri, x_rz, x_rl, x_rv, zg, zset, zbef, zlong, zcat, cond_true, cond_false, List.take, List.drop, rv1, rv2, rv3, rv4, rv5, rv6, rv7, sm0, sm1, bl0, bl1, bl2, bl3, bl4, bl5, bl6, bl7, bl8, List.nil_append, List.cons_append, List.length_cons, List.length_nil, Nat.reduceBEq, Nat.reduceAdd, Nat.reduceSub, ta, tb, tn0, tn1, tn2, tn3, tn4, tn5, tn6, tn7, tn8, tn9, tn10, tn11, tn12]
    rw [hno] at hK
    exact ⟨fun _ => hK, fun c => absurd c (lt_out rfl)⟩
def v_named (A : aA) (w x : Int32) : Int32 := if w = 0 then wbR (fnd (A.T.2.1 0) x (A.T.1 0)) else if w = 1 then wbR (fnd (A.T.2.1 4) x (A.T.1 1)) else -1
theorem c_named {K : zQ} {I : zI} {L : zJ} {P : zP} {A : aA} {w x : Int32} (hC : RC A I P) (hk : K [.inl (v_named A w x)] (I, L, P)) : mX11_named K [kbR, .inl w, .inl x] (I, L, P) := by
  obtain ⟨t, hT, h11, h8, hS⟩ := hC.b
  unfold v_named at hk
  show bX11_named_0 K [some (.inr (.inr (11,0))), some (.inl w), some (.inl x)] [] (I, L, P)
  unfold bX11_named_0
  dsimp only [x_int, x_lng, x_ild, x_lld, x_ald, x_ist, x_ast, x_lst, x_inc, x_ii, x_id, x_i, x_ll, x_ld, x_l, x_cmp, x_i2l, x_l2i, x_if, x_ic, x_dup, x_pop, x_dup2, x_gI, x_gL, x_gR, x_g1, x_g0, x_gP, x_pI, x_pZ, x_pL, x_pP, x_al, x_as, x_all, x_asl, x_alr, x_len, x_cpy, x_m2, x_m1, x_m2l, x_m1l, x_call, x_cv, x_ri, x_rz, x_rl, x_rv, zg, zset, zbef, zlong, zcat, cond_true, cond_false, List.take, List.drop, rv1, rv2, rv3, rv4, rv5, rv6, rv7, sm0, sm1, bl0, bl1, bl2, bl3, bl4, bl5, bl6, bl7, bl8, List.nil_append, List.cons_append, List.length_cons, List.length_nil, Nat.reduceBEq, Nat.reduceAdd, Nat.reduceSub, ta, tb, tn0, tn1, tn2, tn3, tn4, tn5, tn6, tn7, tn8, tn9, tn10, tn11, tn12, g_sw]
  rw [h11]
  refine ⟨fun e => ⟨hT.1, p_handOf hT.1 hT.2.1.1 hT.h6 (fun i hi => (hT.hand hi).1) ?_⟩, fun e => ⟨fun e1 => ⟨hT.1, p_woodOf hT.1 hT.2.1.2.1 hT.w4 (fun i hi => (hT.wood hi).1) ?_⟩, fun e1 => ?_⟩⟩
  · dsimp only [x_int, x_lng, x_ild, x_lld, x_ald, x_ist, x_ast, x_lst, x_inc, x_ii, x_id, x_i, x_ll, x_ld, x_l, x_cmp, x_i2l, x_l2i, x_if, x_ic, x_dup, x_pop, x_dup2, x_gI, x_gL, x_gR, x_g1, x_g0, x_gP, x_pI, x_pZ, x_pL, x_pP, x_al, x_as, x_all, x_asl, x_alr, x_len, x_cpy, x_m2, x_m1, x_m2l, x_m1l, x_call, x_cv, x_ri, x_rz, x_rl, x_rv, zg, zset, zbef, zlong, zcat, cond_true, cond_false, List.take, List.drop, rv1, rv2, rv3, rv4, rv5, rv6, rv7, sm0, sm1, bl0, bl1, bl2, bl3, bl4, bl5, bl6, bl7, bl8, List.nil_append, List.cons_append, List.length_cons, List.length_nil, Nat.reduceBEq, Nat.reduceAdd, Nat.reduceSub, ta, tb, tn0, tn1, tn2, tn3, tn4, tn5, tn6, tn7, tn8, tn9, tn10, tn11, tn12]
    rw [if_pos e] at hk; exact hk
  · dsimp only [x_int, x_lng, x_ild, x_lld, x_ald, x_ist, x_ast, x_lst, x_inc, x_ii, x_id, x_i, x_ll, x_ld, x_l, x_cmp, x_i2l, x_l2i, x_if, x_ic, x_dup, x_pop, x_dup2, x_gI, x_gL, x_gR, x_g1, x_g0, x_gP, x_pI, x_pZ, x_pL, x_pP, x_al, x_as, x_all, x_asl, x_alr, x_len, x_cpy, x_m2, x_m1, x_m2l, x_m1l, x_call, x_cv, x_ri, x_rz, x_rl, x_rv, zg, zset, zbef, zlong, zcat, cond_true, cond_false, List.take, List.drop, rv1, rv2, rv3, rv4, rv5, rv6, rv7, sm0, sm1, bl0, bl1, bl2, bl3, bl4, bl5, bl6, bl7, bl8, List.nil_append, List.cons_append, List.length_cons, List.length_nil, Nat.reduceBEq, Nat.reduceAdd, Nat.reduceSub, ta, tb, tn0, tn1, tn2, tn3, tn4, tn5, tn6, tn7, tn8, tn9, tn10, tn11, tn12]
    rw [if_neg e, if_pos e1] at hk; exact hk
  · rw [if_neg e, if_neg e1] at hk; exact hk
theorem r_named {K : zQ} {I : zI} {L : zJ} {P : zP} {A : aA} {w x : Int32} (hR : RR A I L) (hK : ∀ (I' : zI) (L' : zJ), frR I I' → zeLr L L' → K [.inl (v_named A w x)] (I', L', P)) : mX12_named K [refR, .inl w, .inl x] (I, L, P) := by
  show bX12_named_0 K [some (.inr (.inr (12,0))), some (.inl w), some (.inl x)] [] (I, L, P)
  unfold bX12_named_0
  obtain ⟨I1, e9, hR1, f1⟩ := r_thr P hR
  dsimp only [x_ald, x_int, x_pI, zg, Nat.reduceBEq, cond_true]
  rw [e9]
  have hk := hK I1 L f1 zeLr.rf
  unfold v_named at hk
  have hT := hR1.1
  have h6 := hT.h6
  have w4 := hT.w4
  dsimp only [x_int, x_lng, x_ild, x_lld, x_ald, x_ist, x_ast, x_lst, x_inc, x_ii, x_id, x_i, x_ll, x_ld, x_l, x_cmp, x_i2l, x_l2i, x_if, x_ic, x_dup, x_pop, x_dup2, x_gI, x_gL, x_gR, x_g1, x_g0, x_gP, x_pI, x_pZ, x_pL, x_pP, x_al, x_as, x_all, x_asl, x_alr, x_len, x_cpy, x_m2, x_m1, x_m2l, x_m1l, x_call, x_cv, x_ri, x_rz, x_rl, x_rv, zg, zset, zbef, zlong, zcat, cond_true, cond_false, List.take, List.drop, rv1, rv2, rv3, rv4, rv5, rv6, rv7, sm0, sm1, bl0, bl1, bl2, bl3, bl4, bl5, bl6, bl7, bl8, List.nil_append, List.cons_append, List.length_cons, List.length_nil, Nat.reduceBEq, Nat.reduceAdd, Nat.reduceSub, ta, tb, tn0, tn1, tn2, tn3, tn4, tn5, tn6, tn7, tn8, tn9, tn10, tn11, tn12, bX12_named_47]
  rw [hT.1.1, hT.1.2.1]
  refine ⟨fun e => p_find (o := 0) (n := A.T.1 0) (f := A.T.2.1 0) rfl (by show _ ≤ 12; omega) (by decide) (fun i hi => by rw [Nat.zero_add]; exact (hT.hand hi).1) ?_, fun e => ⟨fun e1 => p_find (o := 0) (n := A.T.1 1) (f := A.T.2.1 4) rfl (by show _ ≤ 8; omega) (by decide) (fun i hi => by rw [Nat.zero_add]; exact (hT.wood hi).1) ?_, fun e1 => ?_⟩⟩
  · dsimp only [x_int, x_lng, x_ild, x_lld, x_ald, x_ist, x_ast, x_lst, x_inc, x_ii, x_id, x_i, x_ll, x_ld, x_l, x_cmp, x_i2l, x_l2i, x_if, x_ic, x_dup, x_pop, x_dup2, x_gI, x_gL, x_gR, x_g1, x_g0, x_gP, x_pI, x_pZ, x_pL, x_pP, x_al, x_as, x_all, x_asl, x_alr, x_len, x_cpy, x_m2, x_m1, x_m2l, x_m1l, x_call, x_cv, x_ri, x_rz, x_rl, x_rv, zg, zset, zbef, zlong, zcat, cond_true, cond_false, List.take, List.drop, rv1, rv2, rv3, rv4, rv5, rv6, rv7, sm0, sm1, bl0, bl1, bl2, bl3, bl4, bl5, bl6, bl7, bl8, List.nil_append, List.cons_append, List.length_cons, List.length_nil, Nat.reduceBEq, Nat.reduceAdd, Nat.reduceSub, ta, tb, tn0, tn1, tn2, tn3, tn4, tn5, tn6, tn7, tn8, tn9, tn10, tn11, tn12]
    rw [if_pos e] at hk; exact hk
  · dsimp only [x_int, x_lng, x_ild, x_lld, x_ald, x_ist, x_ast, x_lst, x_inc, x_ii, x_id, x_i, x_ll, x_ld, x_l, x_cmp, x_i2l, x_l2i, x_if, x_ic, x_dup, x_pop, x_dup2, x_gI, x_gL, x_gR, x_g1, x_g0, x_gP, x_pI, x_pZ, x_pL, x_pP, x_al, x_as, x_all, x_asl, x_alr, x_len, x_cpy, x_m2, x_m1, x_m2l, x_m1l, x_call, x_cv, x_ri, x_rz, x_rl, x_rv, zg, zset, zbef, zlong, zcat, cond_true, cond_false, List.take, List.drop, rv1, rv2, rv3, rv4, rv5, rv6, rv7, sm0, sm1, bl0, bl1, bl2, bl3, bl4, bl5, bl6, bl7, bl8, List.nil_append, List.cons_append, List.length_cons, List.length_nil, Nat.reduceBEq, Nat.reduceAdd, Nat.reduceSub, ta, tb, tn0, tn1, tn2, tn3, tn4, tn5, tn6, tn7, tn8, tn9, tn10, tn11, tn12]
    rw [if_neg e, if_pos e1] at hk; exact hk
  · rw [if_neg e, if_neg e1] at hk; exact hk
