-- strict or not
def tkB (lk far s : Int32) : Bool := decide (far ≤ if s = 0 then (if 0 < lk - 2 then lk - 2 else 0) else lk + 2)
def gnv (lk far a b : Int32) : Int32 := if tkB lk far a = true then (if a = 0 then 0 else -2) + (if tkB lk far b = true then 5 else 8) else (if a = 0 then 0 else -2)
def rsB (lk far : Int32) (p : Nat) : Bool := decide (¬ gnv lk far (nI (p / 2)) (nI (p % 2)) < gnv lk far (1 - nI (p / 2)) (nI (p % 2)) ∧ ¬ gnv lk far (nI (p % 2)) (nI (p / 2)) < gnv lk far (1 - nI (p % 2)) (nI (p / 2)))
theorem p_takesC {K : zQ} {I : zI} {L : zJ} {P : zP} {lk s far : Int32} (hl : I 8 0 15 = lk) (hK : K [.inl (if tkB lk far s = true then 1 else 0)] (I, L, P)) : mX11_takes K [kbR, .inl s, .inl far] (I, L, P) := by
  show bX11_takes_0 K [some (.inr (.inr (11,0))), some (.inl s), some (.inl far)] [] (I, L, P)
  unfold bX11_takes_0
  dsimp only [x_int, x_lng, x_ild, x_lld, x_ald, x_ist, x_ast, x_lst, x_inc, x_ii, x_id, x_i, x_ll, x_ld, x_l, x_cmp, x_i2l, x_l2i, x_if, x_ic, x_dup, x_pop, x_dup2, x_gI, x_gL, x_gR, x_g1, x_g0, x_gP, x_pI, x_pZ, x_pL, x_pP, x_al, x_as, x_all, x_asl, x_alr, x_len, x_cpy, x_m2, x_m1, x_m2l, x_m1l, x_call, x_cv, x_ri, x_rz, x_rl, x_rv, zg, zset, zbef, zlong, zcat, cond_true, cond_false, List.take, List.drop, rv1, rv2, rv3, rv4, rv5, rv6, rv7, sm0, sm1, bl0, bl1, bl2, bl3, bl4, bl5, bl6, bl7, bl8, List.nil_append, List.cons_append, List.length_cons, List.length_nil, Nat.reduceBEq, Nat.reduceAdd, Nat.reduceSub, ta, tb, tn0, tn1, tn2, tn3, tn4, tn5, tn6, tn7, tn8, tn9, tn10, tn11, tn12, bX11_takes_30, bX11_takes_38]
  rw [hl]
  unfold tkB at hK
  refine ⟨fun c => ?_, fun c => ?_⟩
  · rw [if_pos c] at hK
    refine ⟨fun d => ?_, fun d => ?_⟩
    · rw [if_neg (fun q => Int32.not_lt.mpr (of_decide_eq_true q) d)] at hK
      exact ⟨Or.inl rfl, hK⟩
    · rw [if_pos (decide_eq_true (Int32.not_lt.mp d))] at hK
      exact ⟨Or.inr rfl, hK⟩
  · rw [if_neg c] at hK
    refine ⟨fun d => ?_, fun d => ?_⟩
    · rw [if_neg (fun q => Int32.not_lt.mpr (of_decide_eq_true q) d)] at hK
      exact ⟨Or.inl rfl, hK⟩
    · rw [if_pos (decide_eq_true (Int32.not_lt.mp d))] at hK
      exact ⟨Or.inr rfl, hK⟩
theorem p_gain {K : zQ} {I : zI} {L : zJ} {P : zP} {lk a b far : Int32} (hl : I 8 0 15 = lk) (hK : K [.inl (gnv lk far a b)] (I, L, P)) : mX11_gain K [kbR, .inl a, .inl b, .inl far] (I, L, P) := by
  unfold gnv at hK
  have go : ∀ v : Int32, v = (if a = 0 then 0 else -2) → bX11_gain_10 K [some kbR, some (.inl a), some (.inl b), some (.inl far), none] [.inl v] (I, L, P) := fun v hv => by
    unfold bX11_gain_10
    dsimp only [x_int, x_lng, x_ild, x_lld, x_ald, x_ist, x_ast, x_lst, x_inc, x_ii, x_id, x_i, x_ll, x_ld, x_l, x_cmp, x_i2l, x_l2i, x_if, x_ic, x_dup, x_pop, x_dup2, x_gI, x_gL, x_gR, x_g1, x_g0, x_gP, x_pI, x_pZ, x_pL, x_pP, x_al, x_as, x_all, x_asl, x_alr, x_len, x_cpy, x_m2, x_m1, x_m2l, x_m1l, x_call, x_cv, x_ri, x_rz, x_rl, x_rv, zg, zset, zbef, zlong, zcat, cond_true, cond_false, List.take, List.drop, rv1, rv2, rv3, rv4, rv5, rv6, rv7, sm0, sm1, bl0, bl1, bl2, bl3, bl4, bl5, bl6, bl7, bl8, List.nil_append, List.cons_append, List.length_cons, List.length_nil, Nat.reduceBEq, Nat.reduceAdd, Nat.reduceSub, ta, tb, tn0, tn1, tn2, tn3, tn4, tn5, tn6, tn7, tn8, tn9, tn10, tn11, tn12]
    refine p_takesC hl ?_
    dsimp only [x_int, x_lng, x_ild, x_lld, x_ald, x_ist, x_ast, x_lst, x_inc, x_ii, x_id, x_i, x_ll, x_ld, x_l, x_cmp, x_i2l, x_l2i, x_if, x_ic, x_dup, x_pop, x_dup2, x_gI, x_gL, x_gR, x_g1, x_g0, x_gP, x_pI, x_pZ, x_pL, x_pP, x_al, x_as, x_all, x_asl, x_alr, x_len, x_cpy, x_m2, x_m1, x_m2l, x_m1l, x_call, x_cv, x_ri, x_rz, x_rl, x_rv, zg, zset, zbef, zlong, zcat, cond_true, cond_false, List.take, List.drop, rv1, rv2, rv3, rv4, rv5, rv6, rv7, sm0, sm1, bl0, bl1, bl2, bl3, bl4, bl5, bl6, bl7, bl8, List.nil_append, List.cons_append, List.length_cons, List.length_nil, Nat.reduceBEq, Nat.reduceAdd, Nat.reduceSub, ta, tb, tn0, tn1, tn2, tn3, tn4, tn5, tn6, tn7, tn8, tn9, tn10, tn11, tn12, bX11_gain_41]
    by_cases c : tkB lk far a = true
    · rw [if_pos c]
      rw [if_pos c] at hK
      refine ⟨fun z => absurd z (by decide), fun _ => p_takesC hl ?_⟩
      dsimp only [x_int, x_lng, x_ild, x_lld, x_ald, x_ist, x_ast, x_lst, x_inc, x_ii, x_id, x_i, x_ll, x_ld, x_l, x_cmp, x_i2l, x_l2i, x_if, x_ic, x_dup, x_pop, x_dup2, x_gI, x_gL, x_gR, x_g1, x_g0, x_gP, x_pI, x_pZ, x_pL, x_pP, x_al, x_as, x_all, x_asl, x_alr, x_len, x_cpy, x_m2, x_m1, x_m2l, x_m1l, x_call, x_cv, x_ri, x_rz, x_rl, x_rv, zg, zset, zbef, zlong, zcat, cond_true, cond_false, List.take, List.drop, rv1, rv2, rv3, rv4, rv5, rv6, rv7, sm0, sm1, bl0, bl1, bl2, bl3, bl4, bl5, bl6, bl7, bl8, List.nil_append, List.cons_append, List.length_cons, List.length_nil, Nat.reduceBEq, Nat.reduceAdd, Nat.reduceSub, ta, tb, tn0, tn1, tn2, tn3, tn4, tn5, tn6, tn7, tn8, tn9, tn10, tn11, tn12, bX11_gain_38, bX11_gain_41]
      by_cases d : tkB lk far b = true
      · rw [if_pos d]
        rw [if_pos d, ← hv] at hK
        exact ⟨fun z => absurd z (by decide), fun _ => hK⟩
      · rw [if_neg d]
        rw [if_neg d, ← hv] at hK
        exact ⟨fun _ => hK, fun z => absurd rfl z⟩
    · rw [if_neg c]
      rw [if_neg c, ← hv] at hK
      exact ⟨fun _ => hK, fun z => absurd rfl z⟩
  show bX11_gain_0 K [some (.inr (.inr (11,0))), some (.inl a), some (.inl b), some (.inl far), none] [] (I, L, P)
  unfold bX11_gain_0
  dsimp only [x_int, x_lng, x_ild, x_lld, x_ald, x_ist, x_ast, x_lst, x_inc, x_ii, x_id, x_i, x_ll, x_ld, x_l, x_cmp, x_i2l, x_l2i, x_if, x_ic, x_dup, x_pop, x_dup2, x_gI, x_gL, x_gR, x_g1, x_g0, x_gP, x_pI, x_pZ, x_pL, x_pP, x_al, x_as, x_all, x_asl, x_alr, x_len, x_cpy, x_m2, x_m1, x_m2l, x_m1l, x_call, x_cv, x_ri, x_rz, x_rl, x_rv, zg, zset, zbef, zlong, zcat, cond_true, cond_false, List.take, List.drop, rv1, rv2, rv3, rv4, rv5, rv6, rv7, sm0, sm1, bl0, bl1, bl2, bl3, bl4, bl5, bl6, bl7, bl8, List.nil_append, List.cons_append, List.length_cons, List.length_nil, Nat.reduceBEq, Nat.reduceAdd, Nat.reduceSub, ta, tb, tn0, tn1, tn2, tn3, tn4, tn5, tn6, tn7, tn8, tn9, tn10, tn11, tn12]
  exact ⟨fun c => go 0 (if_pos c).symm, fun c => go (-2) (if_neg c).symm⟩
theorem tk_low {lk : Int32} {l : Nat} (hl : lk = nI l) (h : l ≤ 30) : (if 0 < lk - 2 then lk - 2 else 0) = (if 2 ≤ lk then lk - 2 else 0) := by
  subst hl
  have : ∀ l, l ≤ 30 → (if 0 < nI l - 2 then nI l - 2 else 0) = (if 2 ≤ nI l then nI l - 2 else 0) := by decide +kernel
  exact this l h
theorem p_takesR {K : zQ} {I : zI} {L : zJ} {P : zP} {lk s far : Int32} {l : Nat} (hl : I 54 0 0 = lk) (el : lk = nI l) (h30 : l ≤ 30) (hK : K [.inl (if tkB lk far s = true then 1 else 0)] (I, L, P)) : mX12_takes K [refR, .inl far, .inl s] (I, L, P) := by
  unfold tkB at hK
  rw [tk_low el h30] at hK
  have go : ∀ v : Int32, v = (if 2 ≤ lk then lk - 2 else 0) → bX12_takes_22 K [some refR, some (.inl far), some (.inl s), none] [.inl v] (I, L, P) := fun v hv => by
    rw [← hv] at hK
    unfold bX12_takes_22
    dsimp only [x_int, x_lng, x_ild, x_lld, x_ald, x_ist, x_ast, x_lst, x_inc, x_ii, x_id, x_i, x_ll, x_ld, x_l, x_cmp, x_i2l, x_l2i, x_if, x_ic, x_dup, x_pop, x_dup2, x_gI, x_gL, x_gR, x_g1, x_g0, x_gP, x_pI, x_pZ, x_pL, x_pP, x_al, x_as, x_all, x_asl, x_alr, x_len, x_cpy, x_m2, x_m1, x_m2l, x_m1l, x_call, x_cv, x_ri, x_rz, x_rl, x_rv, zg, zset, zbef, zlong, zcat, cond_true, cond_false, List.take, List.drop, rv1, rv2, rv3, rv4, rv5, rv6, rv7, sm0, sm1, bl0, bl1, bl2, bl3, bl4, bl5, bl6, bl7, bl8, List.nil_append, List.cons_append, List.length_cons, List.length_nil, Nat.reduceBEq, Nat.reduceAdd, Nat.reduceSub, ta, tb, tn0, tn1, tn2, tn3, tn4, tn5, tn6, tn7, tn8, tn9, tn10, tn11, tn12, zk_54, zl_54, bX12_takes_40, bX12_takes_48]
    rw [hl]
    refine ⟨fun c => ?_, fun c => ⟨by unfold zin; decide, ?_⟩⟩
    · rw [if_pos c] at hK
      refine ⟨fun d => ?_, fun d => ?_⟩
      · rw [if_neg (fun q => Int32.not_lt.mpr (of_decide_eq_true q) d)] at hK
        exact ⟨Or.inl rfl, hK⟩
      · rw [if_pos (decide_eq_true (Int32.not_lt.mp d))] at hK
        exact ⟨Or.inr rfl, hK⟩
    · rw [if_neg c] at hK
      refine ⟨fun d => ?_, fun d => ?_⟩
      · rw [if_neg (fun q => Int32.not_lt.mpr (of_decide_eq_true q) d)] at hK
        exact ⟨Or.inl rfl, hK⟩
      · rw [if_pos (decide_eq_true (Int32.not_lt.mp d))] at hK
        exact ⟨Or.inr rfl, hK⟩
  show bX12_takes_0 K [some (.inr (.inr (12,0))), some (.inl far), some (.inl s), none] [] (I, L, P)
  unfold bX12_takes_0
  dsimp only [x_int, x_lng, x_ild, x_lld, x_ald, x_ist, x_ast, x_lst, x_inc, x_ii, x_id, x_i, x_ll, x_ld, x_l, x_cmp, x_i2l, x_l2i, x_if, x_ic, x_dup, x_pop, x_dup2, x_gI, x_gL, x_gR, x_g1, x_g0, x_gP, x_pI, x_pZ, x_pL, x_pP, x_al, x_as, x_all, x_asl, x_alr, x_len, x_cpy, x_m2, x_m1, x_m2l, x_m1l, x_call, x_cv, x_ri, x_rz, x_rl, x_rv, zg, zset, zbef, zlong, zcat, cond_true, cond_false, List.take, List.drop, rv1, rv2, rv3, rv4, rv5, rv6, rv7, sm0, sm1, bl0, bl1, bl2, bl3, bl4, bl5, bl6, bl7, bl8, List.nil_append, List.cons_append, List.length_cons, List.length_nil, Nat.reduceBEq, Nat.reduceAdd, Nat.reduceSub, ta, tb, tn0, tn1, tn2, tn3, tn4, tn5, tn6, tn7, tn8, tn9, tn10, tn11, tn12, zk_54, zl_54]
  rw [hl]
  exact ⟨by unfold zin; decide, fun c => ⟨by unfold zin; decide, go _ (if_pos c).symm⟩, fun c => go 0 (if_neg c).symm⟩
theorem p_hasBy {K : zQ} {I : zI} {L : zJ} {P : zP} {lk a b far : Int32} {l : Nat} (hl : I 54 0 0 = lk) (el : lk = nI l) (h30 : l ≤ 30) (ha : a = 0 ∨ a = 1) (hK : K [.inl (gnv lk far a b)] (I, L, P)) : mX12_hasBy K [refR, .inl far, .inl a, .inl b] (I, L, P) := by
  unfold gnv at hK
  have go : ∀ v : Int32, v = (if a = 0 then 0 else -2) → bX12_hasBy_11 K [some refR, some (.inl far), some (.inl a), some (.inl b), none] [.inl v] (I, L, P) := fun v hv => by
    unfold bX12_hasBy_11
    dsimp only [x_int, x_lng, x_ild, x_lld, x_ald, x_ist, x_ast, x_lst, x_inc, x_ii, x_id, x_i, x_ll, x_ld, x_l, x_cmp, x_i2l, x_l2i, x_if, x_ic, x_dup, x_pop, x_dup2, x_gI, x_gL, x_gR, x_g1, x_g0, x_gP, x_pI, x_pZ, x_pL, x_pP, x_al, x_as, x_all, x_asl, x_alr, x_len, x_cpy, x_m2, x_m1, x_m2l, x_m1l, x_call, x_cv, x_ri, x_rz, x_rl, x_rv, zg, zset, zbef, zlong, zcat, cond_true, cond_false, List.take, List.drop, rv1, rv2, rv3, rv4, rv5, rv6, rv7, sm0, sm1, bl0, bl1, bl2, bl3, bl4, bl5, bl6, bl7, bl8, List.nil_append, List.cons_append, List.length_cons, List.length_nil, Nat.reduceBEq, Nat.reduceAdd, Nat.reduceSub, ta, tb, tn0, tn1, tn2, tn3, tn4, tn5, tn6, tn7, tn8, tn9, tn10, tn11, tn12]
    refine p_takesR hl el h30 ?_
    dsimp only [x_int, x_lng, x_ild, x_lld, x_ald, x_ist, x_ast, x_lst, x_inc, x_ii, x_id, x_i, x_ll, x_ld, x_l, x_cmp, x_i2l, x_l2i, x_if, x_ic, x_dup, x_pop, x_dup2, x_gI, x_gL, x_gR, x_g1, x_g0, x_gP, x_pI, x_pZ, x_pL, x_pP, x_al, x_as, x_all, x_asl, x_alr, x_len, x_cpy, x_m2, x_m1, x_m2l, x_m1l, x_call, x_cv, x_ri, x_rz, x_rl, x_rv, zg, zset, zbef, zlong, zcat, cond_true, cond_false, List.take, List.drop, rv1, rv2, rv3, rv4, rv5, rv6, rv7, sm0, sm1, bl0, bl1, bl2, bl3, bl4, bl5, bl6, bl7, bl8, List.nil_append, List.cons_append, List.length_cons, List.length_nil, Nat.reduceBEq, Nat.reduceAdd, Nat.reduceSub, ta, tb, tn0, tn1, tn2, tn3, tn4, tn5, tn6, tn7, tn8, tn9, tn10, tn11, tn12]
    by_cases c : tkB lk far a = true
    · rw [if_pos c]
      rw [if_pos c] at hK
      refine ⟨fun z => absurd z (by decide), fun _ => p_takesR hl el h30 ?_⟩
      dsimp only [x_int, x_lng, x_ild, x_lld, x_ald, x_ist, x_ast, x_lst, x_inc, x_ii, x_id, x_i, x_ll, x_ld, x_l, x_cmp, x_i2l, x_l2i, x_if, x_ic, x_dup, x_pop, x_dup2, x_gI, x_gL, x_gR, x_g1, x_g0, x_gP, x_pI, x_pZ, x_pL, x_pP, x_al, x_as, x_all, x_asl, x_alr, x_len, x_cpy, x_m2, x_m1, x_m2l, x_m1l, x_call, x_cv, x_ri, x_rz, x_rl, x_rv, zg, zset, zbef, zlong, zcat, cond_true, cond_false, List.take, List.drop, rv1, rv2, rv3, rv4, rv5, rv6, rv7, sm0, sm1, bl0, bl1, bl2, bl3, bl4, bl5, bl6, bl7, bl8, List.nil_append, List.cons_append, List.length_cons, List.length_nil, Nat.reduceBEq, Nat.reduceAdd, Nat.reduceSub, ta, tb, tn0, tn1, tn2, tn3, tn4, tn5, tn6, tn7, tn8, tn9, tn10, tn11, tn12, bX12_hasBy_42]
      by_cases d : tkB lk far b = true
      · rw [if_pos d]
        rw [if_pos d, ← hv] at hK
        exact ⟨fun z => absurd z (by decide), fun _ => hK⟩
      · rw [if_neg d]
        rw [if_neg d, ← hv] at hK
        exact ⟨fun _ => hK, fun z => absurd rfl z⟩
    · rw [if_neg c]
      rw [if_neg c, ← hv] at hK
      exact ⟨fun _ => hK, fun z => absurd rfl z⟩
  show bX12_hasBy_0 K [some (.inr (.inr (12,0))), some (.inl far), some (.inl a), some (.inl b), none] [] (I, L, P)
  unfold bX12_hasBy_0
  dsimp only [x_int, x_lng, x_ild, x_lld, x_ald, x_ist, x_ast, x_lst, x_inc, x_ii, x_id, x_i, x_ll, x_ld, x_l, x_cmp, x_i2l, x_l2i, x_if, x_ic, x_dup, x_pop, x_dup2, x_gI, x_gL, x_gR, x_g1, x_g0, x_gP, x_pI, x_pZ, x_pL, x_pP, x_al, x_as, x_all, x_asl, x_alr, x_len, x_cpy, x_m2, x_m1, x_m2l, x_m1l, x_call, x_cv, x_ri, x_rz, x_rl, x_rv, zg, zset, zbef, zlong, zcat, cond_true, cond_false, List.take, List.drop, rv1, rv2, rv3, rv4, rv5, rv6, rv7, sm0, sm1, bl0, bl1, bl2, bl3, bl4, bl5, bl6, bl7, bl8, List.nil_append, List.cons_append, List.length_cons, List.length_nil, Nat.reduceBEq, Nat.reduceAdd, Nat.reduceSub, ta, tb, tn0, tn1, tn2, tn3, tn4, tn5, tn6, tn7, tn8, tn9, tn10, tn11, tn12]
  rcases ha with rfl | rfl
  · exact ⟨fun c => absurd c (by decide), fun c => go 0 rfl⟩
  · exact ⟨fun c => go (-2) rfl, fun c => absurd rfl c⟩
def rsFar (T : aT) (S : aS) (h w : Nat) : Int32 := nI (zcount (fun k => decide (¬ shk T S h w k < 50)) 6)
theorem lgr_f {e : Nat → Int32} {n : Int32} {k : Nat} : lgr false e n k = if e k < 50 then 0 else 1 := rfl
theorem apn_lgr {f e : Nat → Int32} {n : Int32} : ∀ m, m ≤ 6 → apn (fun k => f k - (f k + lgr false e n k)) m = nI (zcount (fun k => decide (¬ e k < 50)) m) := by
  intro m
  induction m with
  | zero => intro _; rfl
  | succ m ih =>
    intro hm
    have ih := ih (by omega)
    have s : apn (fun k => f k - (f k + lgr false e n k)) (m + 1) = apn (fun k => f k - (f k + lgr false e n k)) m + (if 0 ≤ f m - (f m + lgr false e n m) then f m - (f m + lgr false e n m) else -(f m - (f m + lgr false e n m))) := rfl
    have c : zcount (fun k => decide (¬ e k < 50)) (m + 1) = zcount (fun k => decide (¬ e k < 50)) m + (if decide (¬ e m < 50) = true then 1 else 0) := rfl
    have sub : ∀ l : Int32, f m - (f m + l) = -l := fun l => by
      rw [Int32.sub_eq_add_neg, Int32.neg_add, Int32.sub_eq_add_neg, ← Int32.add_assoc, Int32.add_right_neg, Int32.zero_add]
    rw [s, c, ih, sub, lgr_f]
    by_cases q : e m < 50
    · rw [if_pos q, if_neg (show ¬ decide (¬ e m < 50) = true by simp [q]), show (if (0 : Int32) ≤ -0 then (-0 : Int32) else - -0) = 0 by decide, Int32.add_zero]
      rfl
    · rw [if_neg q, if_pos (show decide (¬ e m < 50) = true by simp [q])]
      exact n_succ _
theorem p_restBits {K : zQ} {I : zI} {L : zJ} {P : zP} {A : aA} {h w : Nat} (hC : RC A I P) (hh : h < A.T.1 0) (hw : w < A.T.1 1) (hK : ∀ (I' : zI) (L' : zJ), (∀ a b c, ¬ (a = 41 ∧ b = 0) → I' a b c = I a b c) → zeL2 L L' → K [.inl (nI (bsB (rsB (A.S 13 0) (rsFar A.T A.S h w)) 4))] (I', L', P)) : mX11_restBits K [kbR, .inl (nI h), .inl (nI w)] (I, L, P) := by
  obtain ⟨t, hT, h11, h8, hS⟩ := hC.b
  have h6 := hT.h6
  have w4 := hT.w4
  show bX11_restBits_0 K [some (.inr (.inr (11,0))), some (.inl (nI h)), some (.inl (nI w)), none, none, none, none, none, none, none] [] (I, L, P)
  unfold bX11_restBits_0
  dsimp only [x_int, x_lng, x_ild, x_lld, x_ald, x_ist, x_ast, x_lst, x_inc, x_ii, x_id, x_i, x_ll, x_ld, x_l, x_cmp, x_i2l, x_l2i, x_if, x_ic, x_dup, x_pop, x_dup2, x_gI, x_gL, x_gR, x_g1, x_g0, x_gP, x_pI, x_pZ, x_pL, x_pP, x_al, x_as, x_all, x_asl, x_alr, x_len, x_cpy, x_m2, x_m1, x_m2l, x_m1l, x_call, x_cv, x_ri, x_rz, x_rl, x_rv, zg, zset, zbef, zlong, zcat, cond_true, cond_false, List.take, List.drop, rv1, rv2, rv3, rv4, rv5, rv6, rv7, sm0, sm1, bl0, bl1, bl2, bl3, bl4, bl5, bl6, bl7, bl8, List.nil_append, List.cons_append, List.length_cons, List.length_nil, Nat.reduceBEq, Nat.reduceAdd, Nat.reduceSub, ta, tb, tn0, tn1, tn2, tn3, tn4, tn5, tn6, tn7, tn8, tn9, tn10, tn11, tn12]
  refine p_listen (dr := false) (Or.inl ⟨rfl, rfl⟩) h8 hT hS hh hw (fun I1 L1 l1 f1 e1 n1 => ?_)
  have f2 : ∀ a b c, ¬ (a = 41 ∧ b = 0) → I1 a b c = I a b c := fun a b c q => by
    by_cases z : a = 8 ∧ b = 0 ∧ c = 14
    · rw [z.1, z.2.1, z.2.2, n1, nks_false]; exact hS.2.2.2.2.1.symm
    · exact f1 a b c q z
  have hb : ∀ k, k < 6 → I1 14 (6 * t + h) k = A.T.2.1 3 (6 * h + k) := fun k hk => (f2 _ _ _ (by omega)).trans ((hT.hand hh).2.2.2 k hk)
  have hl : I1 8 0 15 = A.S 13 0 := (f2 _ _ _ (by omega)).trans hS.2.2.2.2.2.1
  dsimp only [x_int, x_lng, x_ild, x_lld, x_ald, x_ist, x_ast, x_lst, x_inc, x_ii, x_id, x_i, x_ll, x_ld, x_l, x_cmp, x_i2l, x_l2i, x_if, x_ic, x_dup, x_pop, x_dup2, x_gI, x_gL, x_gR, x_g1, x_g0, x_gP, x_pI, x_pZ, x_pL, x_pP, x_al, x_as, x_all, x_asl, x_alr, x_len, x_cpy, x_m2, x_m1, x_m2l, x_m1l, x_call, x_cv, x_ri, x_rz, x_rl, x_rv, zg, zset, zbef, zlong, zcat, cond_true, cond_false, List.take, List.drop, rv1, rv2, rv3, rv4, rv5, rv6, rv7, sm0, sm1, bl0, bl1, bl2, bl3, bl4, bl5, bl6, bl7, bl8, List.nil_append, List.cons_append, List.length_cons, List.length_nil, Nat.reduceBEq, Nat.reduceAdd, Nat.reduceSub, ta, tb, tn0, tn1, tn2, tn3, tn4, tn5, tn6, tn7, tn8, tn9, tn10, tn11, tn12, zl_43]
  rw [h11, n_cl (n := h) (by omega)]
  refine ⟨hT.1, n_zin (by omega) (by decide), p_apartFrom rfl rfl ?_⟩
  rw [apn_congr (e := fun k => A.T.2.1 3 (6 * h + k) - (A.T.2.1 3 (6 * h + k) + lgr false (shk A.T A.S h w) (A.S 10 0) k)) (fun k hk => by rw [hb k hk, e1 k hk]), apn_lgr 6 (by omega)]
  dsimp only [x_int, x_lng, x_ild, x_lld, x_ald, x_ist, x_ast, x_lst, x_inc, x_ii, x_id, x_i, x_ll, x_ld, x_l, x_cmp, x_i2l, x_l2i, x_if, x_ic, x_dup, x_pop, x_dup2, x_gI, x_gL, x_gR, x_g1, x_g0, x_gP, x_pI, x_pZ, x_pL, x_pP, x_al, x_as, x_all, x_asl, x_alr, x_len, x_cpy, x_m2, x_m1, x_m2l, x_m1l, x_call, x_cv, x_ri, x_rz, x_rl, x_rv, zg, zset, zbef, zlong, zcat, cond_true, cond_false, List.take, List.drop, rv1, rv2, rv3, rv4, rv5, rv6, rv7, sm0, sm1, bl0, bl1, bl2, bl3, bl4, bl5, bl6, bl7, bl8, List.nil_append, List.cons_append, List.length_cons, List.length_nil, Nat.reduceBEq, Nat.reduceAdd, Nat.reduceSub, ta, tb, tn0, tn1, tn2, tn3, tn4, tn5, tn6, tn7, tn8, tn9, tn10, tn11, tn12]
  have hk := hK I1 L1 f2 l1
  unfold rsFar at hk
  generalize nI (zcount (fun k => decide (¬ shk A.T A.S h w k < 50)) 6) = far at *
  generalize A.S 13 0 = lk at *
  refine zinv 4 (fun i Z M => ∃ z6 z7 z8 z9 : Option zV, Z = [some kbR, some (.inl (nI h)), some (.inl (nI w)), some (.inl far), some (.inl (nI (bsB (rsB lk far) i))), some (.inl (nI i)), z6, z7, z8, z9] ∧ M = (I1, L1, P)) ?_ ?_ ⟨none, none, none, none, rfl, rfl⟩
  · rintro i Z M hi ⟨z6, z7, z8, z9, rfl, rfl⟩ self hself
    have d2 : ∀ i, i < 4 → nI i / 2 = nI (i / 2) ∧ nI i - nI i / 2 * 2 = nI (i % 2) := by decide +kernel
    obtain ⟨q1, q2⟩ := d2 i hi
    dsimp only [x_int, x_lng, x_ild, x_lld, x_ald, x_ist, x_ast, x_lst, x_inc, x_ii, x_id, x_i, x_ll, x_ld, x_l, x_cmp, x_i2l, x_l2i, x_if, x_ic, x_dup, x_pop, x_dup2, x_gI, x_gL, x_gR, x_g1, x_g0, x_gP, x_pI, x_pZ, x_pL, x_pP, x_al, x_as, x_all, x_asl, x_alr, x_len, x_cpy, x_m2, x_m1, x_m2l, x_m1l, x_call, x_cv, x_ri, x_rz, x_rl, x_rv, zg, zset, zbef, zlong, zcat, cond_true, cond_false, List.take, List.drop, rv1, rv2, rv3, rv4, rv5, rv6, rv7, sm0, sm1, bl0, bl1, bl2, bl3, bl4, bl5, bl6, bl7, bl8, List.nil_append, List.cons_append, List.length_cons, List.length_nil, Nat.reduceBEq, Nat.reduceAdd, Nat.reduceSub, ta, tb, tn0, tn1, tn2, tn3, tn4, tn5, tn6, tn7, tn8, tn9, tn10, tn11, tn12]
    rw [q2, q1]
    refine ⟨fun c => absurd c (lt_go (n := 4) rfl (by omega) hi), fun _ => ⟨by decide, by decide, p_gain hl ?_⟩⟩
    dsimp only [x_int, x_lng, x_ild, x_lld, x_ald, x_ist, x_ast, x_lst, x_inc, x_ii, x_id, x_i, x_ll, x_ld, x_l, x_cmp, x_i2l, x_l2i, x_if, x_ic, x_dup, x_pop, x_dup2, x_gI, x_gL, x_gR, x_g1, x_g0, x_gP, x_pI, x_pZ, x_pL, x_pP, x_al, x_as, x_all, x_asl, x_alr, x_len, x_cpy, x_m2, x_m1, x_m2l, x_m1l, x_call, x_cv, x_ri, x_rz, x_rl, x_rv, zg, zset, zbef, zlong, zcat, cond_true, cond_false, List.take, List.drop, rv1, rv2, rv3, rv4, rv5, rv6, rv7, sm0, sm1, bl0, bl1, bl2, bl3, bl4, bl5, bl6, bl7, bl8, List.nil_append, List.cons_append, List.length_cons, List.length_nil, Nat.reduceBEq, Nat.reduceAdd, Nat.reduceSub, ta, tb, tn0, tn1, tn2, tn3, tn4, tn5, tn6, tn7, tn8, tn9, tn10, tn11, tn12]
    refine p_gain hl ?_
    dsimp only [x_int, x_lng, x_ild, x_lld, x_ald, x_ist, x_ast, x_lst, x_inc, x_ii, x_id, x_i, x_ll, x_ld, x_l, x_cmp, x_i2l, x_l2i, x_if, x_ic, x_dup, x_pop, x_dup2, x_gI, x_gL, x_gR, x_g1, x_g0, x_gP, x_pI, x_pZ, x_pL, x_pP, x_al, x_as, x_all, x_asl, x_alr, x_len, x_cpy, x_m2, x_m1, x_m2l, x_m1l, x_call, x_cv, x_ri, x_rz, x_rl, x_rv, zg, zset, zbef, zlong, zcat, cond_true, cond_false, List.take, List.drop, rv1, rv2, rv3, rv4, rv5, rv6, rv7, sm0, sm1, bl0, bl1, bl2, bl3, bl4, bl5, bl6, bl7, bl8, List.nil_append, List.cons_append, List.length_cons, List.length_nil, Nat.reduceBEq, Nat.reduceAdd, Nat.reduceSub, ta, tb, tn0, tn1, tn2, tn3, tn4, tn5, tn6, tn7, tn8, tn9, tn10, tn11, tn12]
    have st : bsB (rsB lk far) (i + 1) = bsB (rsB lk far) i + (if rsB lk far i = true then 2 ^ i else 0) := rfl
    have skip : ¬ rsB lk far i = true → ∀ z6 z7 z8 z9 : Option zV, self [some kbR, some (.inl (nI h)), some (.inl (nI w)), some (.inl far), some (.inl (nI (bsB (rsB lk far) i))), some (.inl (nI (i + 1))), z6, z7, z8, z9] [] (I1, L1, P) := fun z a b c d => hself _ _ ⟨a, b, c, d, by rw [st, if_neg z]; rfl, rfl⟩
    refine ⟨fun c1 => ?_, fun c1 => ?_⟩
    · unfold bX11_restBits_82
      dsimp only [x_int, x_lng, x_ild, x_lld, x_ald, x_ist, x_ast, x_lst, x_inc, x_ii, x_id, x_i, x_ll, x_ld, x_l, x_cmp, x_i2l, x_l2i, x_if, x_ic, x_dup, x_pop, x_dup2, x_gI, x_gL, x_gR, x_g1, x_g0, x_gP, x_pI, x_pZ, x_pL, x_pP, x_al, x_as, x_all, x_asl, x_alr, x_len, x_cpy, x_m2, x_m1, x_m2l, x_m1l, x_call, x_cv, x_ri, x_rz, x_rl, x_rv, zg, zset, zbef, zlong, zcat, cond_true, cond_false, List.take, List.drop, rv1, rv2, rv3, rv4, rv5, rv6, rv7, sm0, sm1, bl0, bl1, bl2, bl3, bl4, bl5, bl6, bl7, bl8, List.nil_append, List.cons_append, List.length_cons, List.length_nil, Nat.reduceBEq, Nat.reduceAdd, Nat.reduceSub, ta, tb, tn0, tn1, tn2, tn3, tn4, tn5, tn6, tn7, tn8, tn9, tn10, tn11, tn12]
      refine p_gain hl ?_
      dsimp only [x_int, x_lng, x_ild, x_lld, x_ald, x_ist, x_ast, x_lst, x_inc, x_ii, x_id, x_i, x_ll, x_ld, x_l, x_cmp, x_i2l, x_l2i, x_if, x_ic, x_dup, x_pop, x_dup2, x_gI, x_gL, x_gR, x_g1, x_g0, x_gP, x_pI, x_pZ, x_pL, x_pP, x_al, x_as, x_all, x_asl, x_alr, x_len, x_cpy, x_m2, x_m1, x_m2l, x_m1l, x_call, x_cv, x_ri, x_rz, x_rl, x_rv, zg, zset, zbef, zlong, zcat, cond_true, cond_false, List.take, List.drop, rv1, rv2, rv3, rv4, rv5, rv6, rv7, sm0, sm1, bl0, bl1, bl2, bl3, bl4, bl5, bl6, bl7, bl8, List.nil_append, List.cons_append, List.length_cons, List.length_nil, Nat.reduceBEq, Nat.reduceAdd, Nat.reduceSub, ta, tb, tn0, tn1, tn2, tn3, tn4, tn5, tn6, tn7, tn8, tn9, tn10, tn11, tn12]
      refine p_gain hl ?_
      dsimp only [x_int, x_lng, x_ild, x_lld, x_ald, x_ist, x_ast, x_lst, x_inc, x_ii, x_id, x_i, x_ll, x_ld, x_l, x_cmp, x_i2l, x_l2i, x_if, x_ic, x_dup, x_pop, x_dup2, x_gI, x_gL, x_gR, x_g1, x_g0, x_gP, x_pI, x_pZ, x_pL, x_pP, x_al, x_as, x_all, x_asl, x_alr, x_len, x_cpy, x_m2, x_m1, x_m2l, x_m1l, x_call, x_cv, x_ri, x_rz, x_rl, x_rv, zg, zset, zbef, zlong, zcat, cond_true, cond_false, List.take, List.drop, rv1, rv2, rv3, rv4, rv5, rv6, rv7, sm0, sm1, bl0, bl1, bl2, bl3, bl4, bl5, bl6, bl7, bl8, List.nil_append, List.cons_append, List.length_cons, List.length_nil, Nat.reduceBEq, Nat.reduceAdd, Nat.reduceSub, ta, tb, tn0, tn1, tn2, tn3, tn4, tn5, tn6, tn7, tn8, tn9, tn10, tn11, tn12, bX11_restBits_112, bX11_restBits_133]
      have z : ¬ rsB lk far i = true := fun q => (of_decide_eq_true q).1 c1
      rw [n_succ i]
      exact ⟨fun _ => ⟨fun _ => skip z _ _ _ _, fun q => absurd rfl q⟩, fun _ => ⟨fun _ => skip z _ _ _ _, fun q => absurd rfl q⟩⟩
    · unfold bX11_restBits_82
      dsimp only [x_int, x_lng, x_ild, x_lld, x_ald, x_ist, x_ast, x_lst, x_inc, x_ii, x_id, x_i, x_ll, x_ld, x_l, x_cmp, x_i2l, x_l2i, x_if, x_ic, x_dup, x_pop, x_dup2, x_gI, x_gL, x_gR, x_g1, x_g0, x_gP, x_pI, x_pZ, x_pL, x_pP, x_al, x_as, x_all, x_asl, x_alr, x_len, x_cpy, x_m2, x_m1, x_m2l, x_m1l, x_call, x_cv, x_ri, x_rz, x_rl, x_rv, zg, zset, zbef, zlong, zcat, cond_true, cond_false, List.take, List.drop, rv1, rv2, rv3, rv4, rv5, rv6, rv7, sm0, sm1, bl0, bl1, bl2, bl3, bl4, bl5, bl6, bl7, bl8, List.nil_append, List.cons_append, List.length_cons, List.length_nil, Nat.reduceBEq, Nat.reduceAdd, Nat.reduceSub, ta, tb, tn0, tn1, tn2, tn3, tn4, tn5, tn6, tn7, tn8, tn9, tn10, tn11, tn12]
      refine p_gain hl ?_
      dsimp only [x_int, x_lng, x_ild, x_lld, x_ald, x_ist, x_ast, x_lst, x_inc, x_ii, x_id, x_i, x_ll, x_ld, x_l, x_cmp, x_i2l, x_l2i, x_if, x_ic, x_dup, x_pop, x_dup2, x_gI, x_gL, x_gR, x_g1, x_g0, x_gP, x_pI, x_pZ, x_pL, x_pP, x_al, x_as, x_all, x_asl, x_alr, x_len, x_cpy, x_m2, x_m1, x_m2l, x_m1l, x_call, x_cv, x_ri, x_rz, x_rl, x_rv, zg, zset, zbef, zlong, zcat, cond_true, cond_false, List.take, List.drop, rv1, rv2, rv3, rv4, rv5, rv6, rv7, sm0, sm1, bl0, bl1, bl2, bl3, bl4, bl5, bl6, bl7, bl8, List.nil_append, List.cons_append, List.length_cons, List.length_nil, Nat.reduceBEq, Nat.reduceAdd, Nat.reduceSub, ta, tb, tn0, tn1, tn2, tn3, tn4, tn5, tn6, tn7, tn8, tn9, tn10, tn11, tn12]
      refine p_gain hl ?_
      dsimp only [x_int, x_lng, x_ild, x_lld, x_ald, x_ist, x_ast, x_lst, x_inc, x_ii, x_id, x_i, x_ll, x_ld, x_l, x_cmp, x_i2l, x_l2i, x_if, x_ic, x_dup, x_pop, x_dup2, x_gI, x_gL, x_gR, x_g1, x_g0, x_gP, x_pI, x_pZ, x_pL, x_pP, x_al, x_as, x_all, x_asl, x_alr, x_len, x_cpy, x_m2, x_m1, x_m2l, x_m1l, x_call, x_cv, x_ri, x_rz, x_rl, x_rv, zg, zset, zbef, zlong, zcat, cond_true, cond_false, List.take, List.drop, rv1, rv2, rv3, rv4, rv5, rv6, rv7, sm0, sm1, bl0, bl1, bl2, bl3, bl4, bl5, bl6, bl7, bl8, List.nil_append, List.cons_append, List.length_cons, List.length_nil, Nat.reduceBEq, Nat.reduceAdd, Nat.reduceSub, ta, tb, tn0, tn1, tn2, tn3, tn4, tn5, tn6, tn7, tn8, tn9, tn10, tn11, tn12, bX11_restBits_112, bX11_restBits_133]
      rw [n_succ i]
      refine ⟨fun c2 => ⟨fun q => absurd q (by decide), fun _ => ⟨fun _ => skip (fun q => (of_decide_eq_true q).2 c2) _ _ _ _, fun q => absurd rfl q⟩⟩, fun c2 => ⟨fun q => absurd q (by decide), fun _ => ⟨fun q => absurd q (by decide), fun _ => ?_⟩⟩⟩
      have z : rsB lk far i = true := decide_eq_true ⟨c1, c2⟩
      rw [bsB_or _ (by omega)]
      exact hself _ _ ⟨_, _, _, _, by rw [st, if_pos z], rfl⟩
  · rintro Z M ⟨z6, z7, z8, z9, rfl, rfl⟩ self
    dsimp only [x_int, x_lng, x_ild, x_lld, x_ald, x_ist, x_ast, x_lst, x_inc, x_ii, x_id, x_i, x_ll, x_ld, x_l, x_cmp, x_i2l, x_l2i, x_if, x_ic, x_dup, x_pop, x_dup2, x_gI, x_gL, x_gR, x_g1, x_g0, x_gP, x_pI, x_pZ, x_pL, x_pP, x_al, x_as, x_all, x_asl, x_alr, x_len, x_cpy, x_m2, x_m1, x_m2l, x_m1l, x_call, x_cv, x_ri, x_rz, x_rl, x_rv, zg, zset, zbef, zlong, zcat, cond_true, cond_false, List.take, List.drop, rv1, rv2, rv3, rv4, rv5, rv6, rv7, sm0, sm1, bl0, bl1, bl2, bl3, bl4, bl5, bl6, bl7, bl8, List.nil_append, List.cons_append, List.length_cons, List.length_nil, Nat.reduceBEq, Nat.reduceAdd, Nat.reduceSub, ta, tb, tn0, tn1, tn2, tn3, tn4, tn5, tn6, tn7, tn8, tn9, tn10, tn11, tn12]
    exact ⟨fun _ => hk, fun c => absurd c (lt_out (n := 4) rfl)⟩
def rsF (B : Nat → Bool) (w : Int32) : Nat → Option Nat
  | 0 => none
  | i + 1 => match rsF B w i with
    | some j => some j
    | none => if B i = true ∧ nI (zcount B i) = w then some i else none
theorem rsF_some {B : Nat → Bool} {w : Int32} {i : Nat} : ∀ n, rsF B w i = none → B i = true ∧ nI (zcount B i) = w → i < n → rsF B w n = some i := by
  intro n h1 h2
  induction n with
  | zero => intro h; omega
  | succ n ih =>
    intro h
    unfold rsF
    by_cases e : i < n
    · rw [ih e]
    · have e : i = n := by omega
      subst e
      rw [h1]
      exact if_pos h2
theorem rsF_succ {B : Nat → Bool} {w : Int32} {n : Nat} (h : rsF B w n = none) (h2 : ¬ (B n = true ∧ nI (zcount B n) = w)) : rsF B w (n + 1) = none := by
  unfold rsF
  rw [h]
  exact if_neg h2
def rsV (o : Option Nat) : Int32 := match o with
  | none => -2
  | some i => 10 * nI (i / 2) + nI (i % 2)
def v_rests (A : aA) (h w : Int32) : Int32 := if okN (A.T.1 0) h then (if okN (A.T.1 1) w then nI (zcount (rsB (A.S 13 0) (rsFar A.T A.S h.toNatClampNeg w.toNatClampNeg)) 4) else -1) else -1
def v_rest (A : aA) (h w k : Int32) : Int32 := if okN (A.T.1 0) h then (if okN (A.T.1 1) w then (if 0 ≤ k then rsV (rsF (rsB (A.S 13 0) (rsFar A.T A.S h.toNatClampNeg w.toNatClampNeg)) k 4) else -1) else -1) else -1
theorem fr41 {I I' : zI} (h : ∀ a b c, ¬ (a = 41 ∧ b = 0) → I' a b c = I a b c) : frQ I I' := fun a b c q => h a b c (fun e => by rw [e.1, e.2] at q; exact absurd q (by decide))
theorem c_rests {K : zQ} {I : zI} {L : zJ} {P : zP} {A : aA} {h w : Int32} (hC : RC A I P) (hK : ∀ (I' : zI) (L' : zJ), frQ I I' → zeL2 L L' → K [.inl (v_rests A h w)] (I', L', P)) : mX11_rests K [kbR, .inl h, .inl w] (I, L, P) := by
  obtain ⟨t, hT, h11, h8, hS⟩ := hC.b
  have h6 := hT.h6
  have w4 := hT.w4
  unfold v_rests at hK
  show bX11_rests_0 K [some (.inr (.inr (11,0))), some (.inl h), some (.inl w)] [] (I, L, P)
  unfold bX11_rests_0
  dsimp only [x_int, x_lng, x_ild, x_lld, x_ald, x_ist, x_ast, x_lst, x_inc, x_ii, x_id, x_i, x_ll, x_ld, x_l, x_cmp, x_i2l, x_l2i, x_if, x_ic, x_dup, x_pop, x_dup2, x_gI, x_gL, x_gR, x_g1, x_g0, x_gP, x_pI, x_pZ, x_pL, x_pP, x_al, x_as, x_all, x_asl, x_alr, x_len, x_cpy, x_m2, x_m1, x_m2l, x_m1l, x_call, x_cv, x_ri, x_rz, x_rl, x_rv, zg, zset, zbef, zlong, zcat, cond_true, cond_false, List.take, List.drop, rv1, rv2, rv3, rv4, rv5, rv6, rv7, sm0, sm1, bl0, bl1, bl2, bl3, bl4, bl5, bl6, bl7, bl8, List.nil_append, List.cons_append, List.length_cons, List.length_nil, Nat.reduceBEq, Nat.reduceAdd, Nat.reduceSub, ta, tb, tn0, tn1, tn2, tn3, tn4, tn5, tn6, tn7, tn8, tn9, tn10, tn11, tn12, bX11_rests_28, bX11_rests_29]
  refine p_isHandC hT h11 (fun ok => ?_) (fun no => ⟨fun _ => by have hk := hK I L frQ.rf zeL2.rf; rw [if_neg no] at hk; exact hk, fun z => absurd rfl z⟩)
  dsimp only [x_int, x_lng, x_ild, x_lld, x_ald, x_ist, x_ast, x_lst, x_inc, x_ii, x_id, x_i, x_ll, x_ld, x_l, x_cmp, x_i2l, x_l2i, x_if, x_ic, x_dup, x_pop, x_dup2, x_gI, x_gL, x_gR, x_g1, x_g0, x_gP, x_pI, x_pZ, x_pL, x_pP, x_al, x_as, x_all, x_asl, x_alr, x_len, x_cpy, x_m2, x_m1, x_m2l, x_m1l, x_call, x_cv, x_ri, x_rz, x_rl, x_rv, zg, zset, zbef, zlong, zcat, cond_true, cond_false, List.take, List.drop, rv1, rv2, rv3, rv4, rv5, rv6, rv7, sm0, sm1, bl0, bl1, bl2, bl3, bl4, bl5, bl6, bl7, bl8, List.nil_append, List.cons_append, List.length_cons, List.length_nil, Nat.reduceBEq, Nat.reduceAdd, Nat.reduceSub, ta, tb, tn0, tn1, tn2, tn3, tn4, tn5, tn6, tn7, tn8, tn9, tn10, tn11, tn12, bX11_rests_28, bX11_rests_29]
  rw [if_pos ok] at hK
  refine ⟨fun z => absurd z (by decide), fun _ => p_isWoodC hT h11 (fun ok2 => ?_) (fun no => ⟨fun _ => by have hk := hK I L frQ.rf zeL2.rf; rw [if_neg no] at hk; exact hk, fun z => absurd rfl z⟩)⟩
  rw [if_pos ok2] at hK
  obtain ⟨x, rfl, hx⟩ := ok_of (by omega) ok
  obtain ⟨y, rfl, hy⟩ := ok_of (by omega) ok2
  rw [n_cl (n := x) (by omega), n_cl (n := y) (by omega)] at hK
  dsimp only [x_int, x_lng, x_ild, x_lld, x_ald, x_ist, x_ast, x_lst, x_inc, x_ii, x_id, x_i, x_ll, x_ld, x_l, x_cmp, x_i2l, x_l2i, x_if, x_ic, x_dup, x_pop, x_dup2, x_gI, x_gL, x_gR, x_g1, x_g0, x_gP, x_pI, x_pZ, x_pL, x_pP, x_al, x_as, x_all, x_asl, x_alr, x_len, x_cpy, x_m2, x_m1, x_m2l, x_m1l, x_call, x_cv, x_ri, x_rz, x_rl, x_rv, zg, zset, zbef, zlong, zcat, cond_true, cond_false, List.take, List.drop, rv1, rv2, rv3, rv4, rv5, rv6, rv7, sm0, sm1, bl0, bl1, bl2, bl3, bl4, bl5, bl6, bl7, bl8, List.nil_append, List.cons_append, List.length_cons, List.length_nil, Nat.reduceBEq, Nat.reduceAdd, Nat.reduceSub, ta, tb, tn0, tn1, tn2, tn3, tn4, tn5, tn6, tn7, tn8, tn9, tn10, tn11, tn12]
  refine ⟨fun z => absurd z (by decide), fun _ => p_restBits hC hx hy (fun I1 L1 f1 l1 => ?_)⟩
  dsimp only [x_int, x_lng, x_ild, x_lld, x_ald, x_ist, x_ast, x_lst, x_inc, x_ii, x_id, x_i, x_ll, x_ld, x_l, x_cmp, x_i2l, x_l2i, x_if, x_ic, x_dup, x_pop, x_dup2, x_gI, x_gL, x_gR, x_g1, x_g0, x_gP, x_pI, x_pZ, x_pL, x_pP, x_al, x_as, x_all, x_asl, x_alr, x_len, x_cpy, x_m2, x_m1, x_m2l, x_m1l, x_call, x_cv, x_ri, x_rz, x_rl, x_rv, zg, zset, zbef, zlong, zcat, cond_true, cond_false, List.take, List.drop, rv1, rv2, rv3, rv4, rv5, rv6, rv7, sm0, sm1, bl0, bl1, bl2, bl3, bl4, bl5, bl6, bl7, bl8, List.nil_append, List.cons_append, List.length_cons, List.length_nil, Nat.reduceBEq, Nat.reduceAdd, Nat.reduceSub, ta, tb, tn0, tn1, tn2, tn3, tn4, tn5, tn6, tn7, tn8, tn9, tn10, tn11, tn12]
  refine p_bitCount ?_
  dsimp only [x_int, x_lng, x_ild, x_lld, x_ald, x_ist, x_ast, x_lst, x_inc, x_ii, x_id, x_i, x_ll, x_ld, x_l, x_cmp, x_i2l, x_l2i, x_if, x_ic, x_dup, x_pop, x_dup2, x_gI, x_gL, x_gR, x_g1, x_g0, x_gP, x_pI, x_pZ, x_pL, x_pP, x_al, x_as, x_all, x_asl, x_alr, x_len, x_cpy, x_m2, x_m1, x_m2l, x_m1l, x_call, x_cv, x_ri, x_rz, x_rl, x_rv, zg, zset, zbef, zlong, zcat, cond_true, cond_false, List.take, List.drop, rv1, rv2, rv3, rv4, rv5, rv6, rv7, sm0, sm1, bl0, bl1, bl2, bl3, bl4, bl5, bl6, bl7, bl8, List.nil_append, List.cons_append, List.length_cons, List.length_nil, Nat.reduceBEq, Nat.reduceAdd, Nat.reduceSub, ta, tb, tn0, tn1, tn2, tn3, tn4, tn5, tn6, tn7, tn8, tn9, tn10, tn11, tn12, bX11_rests_29]
  rw [bsB_pop _ (by decide)]
  exact hK I1 L1 (fr41 f1) l1
theorem c_rest {K : zQ} {I : zI} {L : zJ} {P : zP} {A : aA} {h w k : Int32} (hC : RC A I P) (hK : ∀ (I' : zI) (L' : zJ), frQ I I' → zeL2 L L' → K [.inl (v_rest A h w k)] (I', L', P)) : mX11_rest K [kbR, .inl h, .inl w, .inl k] (I, L, P) := by
  obtain ⟨t, hT, h11, h8, hS⟩ := hC.b
  have h6 := hT.h6
  have w4 := hT.w4
  unfold v_rest at hK
  show bX11_rest_0 K [some (.inr (.inr (11,0))), some (.inl h), some (.inl w), some (.inl k), none, none, none] [] (I, L, P)
  unfold bX11_rest_0
  dsimp only [x_int, x_lng, x_ild, x_lld, x_ald, x_ist, x_ast, x_lst, x_inc, x_ii, x_id, x_i, x_ll, x_ld, x_l, x_cmp, x_i2l, x_l2i, x_if, x_ic, x_dup, x_pop, x_dup2, x_gI, x_gL, x_gR, x_g1, x_g0, x_gP, x_pI, x_pZ, x_pL, x_pP, x_al, x_as, x_all, x_asl, x_alr, x_len, x_cpy, x_m2, x_m1, x_m2l, x_m1l, x_call, x_cv, x_ri, x_rz, x_rl, x_rv, zg, zset, zbef, zlong, zcat, cond_true, cond_false, List.take, List.drop, rv1, rv2, rv3, rv4, rv5, rv6, rv7, sm0, sm1, bl0, bl1, bl2, bl3, bl4, bl5, bl6, bl7, bl8, List.nil_append, List.cons_append, List.length_cons, List.length_nil, Nat.reduceBEq, Nat.reduceAdd, Nat.reduceSub, ta, tb, tn0, tn1, tn2, tn3, tn4, tn5, tn6, tn7, tn8, tn9, tn10, tn11, tn12, bX11_rest_20]
  refine p_isHandC hT h11 (fun ok => ?_) (fun no => ⟨fun _ => by have hk := hK I L frQ.rf zeL2.rf; rw [if_neg no] at hk; exact hk, fun z => absurd rfl z⟩)
  dsimp only [x_int, x_lng, x_ild, x_lld, x_ald, x_ist, x_ast, x_lst, x_inc, x_ii, x_id, x_i, x_ll, x_ld, x_l, x_cmp, x_i2l, x_l2i, x_if, x_ic, x_dup, x_pop, x_dup2, x_gI, x_gL, x_gR, x_g1, x_g0, x_gP, x_pI, x_pZ, x_pL, x_pP, x_al, x_as, x_all, x_asl, x_alr, x_len, x_cpy, x_m2, x_m1, x_m2l, x_m1l, x_call, x_cv, x_ri, x_rz, x_rl, x_rv, zg, zset, zbef, zlong, zcat, cond_true, cond_false, List.take, List.drop, rv1, rv2, rv3, rv4, rv5, rv6, rv7, sm0, sm1, bl0, bl1, bl2, bl3, bl4, bl5, bl6, bl7, bl8, List.nil_append, List.cons_append, List.length_cons, List.length_nil, Nat.reduceBEq, Nat.reduceAdd, Nat.reduceSub, ta, tb, tn0, tn1, tn2, tn3, tn4, tn5, tn6, tn7, tn8, tn9, tn10, tn11, tn12, bX11_rest_20]
  rw [if_pos ok] at hK
  refine ⟨fun z => absurd z (by decide), fun _ => p_isWoodC hT h11 (fun ok2 => ?_) (fun no => ⟨fun _ => by have hk := hK I L frQ.rf zeL2.rf; rw [if_neg no] at hk; exact hk, fun z => absurd rfl z⟩)⟩
  rw [if_pos ok2] at hK
  obtain ⟨x, rfl, hx⟩ := ok_of (by omega) ok
  obtain ⟨y, rfl, hy⟩ := ok_of (by omega) ok2
  rw [n_cl (n := x) (by omega), n_cl (n := y) (by omega)] at hK
  dsimp only [x_int, x_lng, x_ild, x_lld, x_ald, x_ist, x_ast, x_lst, x_inc, x_ii, x_id, x_i, x_ll, x_ld, x_l, x_cmp, x_i2l, x_l2i, x_if, x_ic, x_dup, x_pop, x_dup2, x_gI, x_gL, x_gR, x_g1, x_g0, x_gP, x_pI, x_pZ, x_pL, x_pP, x_al, x_as, x_all, x_asl, x_alr, x_len, x_cpy, x_m2, x_m1, x_m2l, x_m1l, x_call, x_cv, x_ri, x_rz, x_rl, x_rv, zg, zset, zbef, zlong, zcat, cond_true, cond_false, List.take, List.drop, rv1, rv2, rv3, rv4, rv5, rv6, rv7, sm0, sm1, bl0, bl1, bl2, bl3, bl4, bl5, bl6, bl7, bl8, List.nil_append, List.cons_append, List.length_cons, List.length_nil, Nat.reduceBEq, Nat.reduceAdd, Nat.reduceSub, ta, tb, tn0, tn1, tn2, tn3, tn4, tn5, tn6, tn7, tn8, tn9, tn10, tn11, tn12, bX11_rest_20]
  refine ⟨fun z => absurd z (by decide), fun _ => ⟨fun k0 => p_restBits hC hx hy (fun I1 L1 f1 l1 => ?_), fun k0 => by have hk := hK I L frQ.rf zeL2.rf; rw [if_neg k0] at hk; exact hk⟩⟩
  have hk := hK I1 L1 (fr41 f1) l1
  rw [if_pos k0] at hk
  generalize rsB (A.S 13 0) (rsFar A.T A.S x y) = B at *
  dsimp only [x_int, x_lng, x_ild, x_lld, x_ald, x_ist, x_ast, x_lst, x_inc, x_ii, x_id, x_i, x_ll, x_ld, x_l, x_cmp, x_i2l, x_l2i, x_if, x_ic, x_dup, x_pop, x_dup2, x_gI, x_gL, x_gR, x_g1, x_g0, x_gP, x_pI, x_pZ, x_pL, x_pP, x_al, x_as, x_all, x_asl, x_alr, x_len, x_cpy, x_m2, x_m1, x_m2l, x_m1l, x_call, x_cv, x_ri, x_rz, x_rl, x_rv, zg, zset, zbef, zlong, zcat, cond_true, cond_false, List.take, List.drop, rv1, rv2, rv3, rv4, rv5, rv6, rv7, sm0, sm1, bl0, bl1, bl2, bl3, bl4, bl5, bl6, bl7, bl8, List.nil_append, List.cons_append, List.length_cons, List.length_nil, Nat.reduceBEq, Nat.reduceAdd, Nat.reduceSub, ta, tb, tn0, tn1, tn2, tn3, tn4, tn5, tn6, tn7, tn8, tn9, tn10, tn11, tn12]
  refine zinv 4 (fun i Z M => Z = [some kbR, some (.inl (nI x)), some (.inl (nI y)), some (.inl k), some (.inl (nI (bsB B 4))), some (.inl (nI (zcount B i))), some (.inl (nI i))] ∧ M = (I1, L1, P) ∧ rsF B k i = none) ?_ ?_ ⟨rfl, rfl, rfl⟩
  · rintro i Z M hi ⟨rfl, rfl, hno⟩ self hself
    have d2 : ∀ i, i < 4 → nI i / 2 = nI (i / 2) ∧ nI i - nI i / 2 * 2 = nI (i % 2) := by decide +kernel
    obtain ⟨q1, q2⟩ := d2 i hi
    have hl : bsB B 4 < 1024 := Nat.lt_of_lt_of_le (bsB_lt _ _) (by decide)
    have e := bits1 _ hl i (by omega)
    rw [bsB_bit] at e
    dsimp only [x_int, x_lng, x_ild, x_lld, x_ald, x_ist, x_ast, x_lst, x_inc, x_ii, x_id, x_i, x_ll, x_ld, x_l, x_cmp, x_i2l, x_l2i, x_if, x_ic, x_dup, x_pop, x_dup2, x_gI, x_gL, x_gR, x_g1, x_g0, x_gP, x_pI, x_pZ, x_pL, x_pP, x_al, x_as, x_all, x_asl, x_alr, x_len, x_cpy, x_m2, x_m1, x_m2l, x_m1l, x_call, x_cv, x_ri, x_rz, x_rl, x_rv, zg, zset, zbef, zlong, zcat, cond_true, cond_false, List.take, List.drop, rv1, rv2, rv3, rv4, rv5, rv6, rv7, sm0, sm1, bl0, bl1, bl2, bl3, bl4, bl5, bl6, bl7, bl8, List.nil_append, List.cons_append, List.length_cons, List.length_nil, Nat.reduceBEq, Nat.reduceAdd, Nat.reduceSub, ta, tb, tn0, tn1, tn2, tn3, tn4, tn5, tn6, tn7, tn8, tn9, tn10, tn11, tn12, bX11_rest_74]
    rw [q2, q1, e, n_succ i, n_succ]
    have st : zcount B (i + 1) = zcount B i + (if B i = true then 1 else 0) := rfl
    refine ⟨fun c => absurd c (lt_go (n := 4) rfl (by omega) hi), fun _ => ⟨fun c => ?_, fun c => ⟨fun d => ⟨by decide, by decide, ?_⟩, fun d => ?_⟩⟩⟩
    · have z : ¬ B i = true := fun q => by simp [hi, q] at c
      exact hself _ _ ⟨by rw [st, if_neg z]; rfl, rfl, rsF_succ hno (fun q => z q.1)⟩
    · have z : B i = true := by
        cases q : B i with
        | true => rfl
        | false => rw [q] at c; exact absurd (by simp) c
      rw [rsF_some 4 hno ⟨z, d⟩ hi] at hk
      exact hk
    · have z : B i = true := by
        cases q : B i with
        | true => rfl
        | false => rw [q] at c; exact absurd (by simp) c
      exact hself _ _ ⟨by rw [st, if_pos z], rfl, rsF_succ hno (fun q => d q.2)⟩
  · rintro Z M ⟨rfl, rfl, hno⟩ self
    dsimp only [x_int, x_lng, x_ild, x_lld, x_ald, x_ist, x_ast, x_lst, x_inc, x_ii, x_id, x_i, x_ll, x_ld, x_l, x_cmp, x_i2l, x_l2i, x_if, x_ic, x_dup, x_pop, x_dup2, x_gI, x_gL, x_gR, x_g1, x_g0, x_gP, x_pI, x_pZ, x_pL, x_pP, x_al, x_as, x_all, x_asl, x_alr, x_len, x_cpy, x_m2, x_m1, x_m2l, x_m1l, x_call, x_cv, x_ri, x_rz, x_rl, x_rv, zg, zset, zbef, zlong, zcat, cond_true, cond_false, List.take, List.drop, rv1, rv2, rv3, rv4, rv5, rv6, rv7, sm0, sm1, bl0, bl1, bl2, bl3, bl4, bl5, bl6, bl7, bl8, List.nil_append, List.cons_append, List.length_cons, List.length_nil, Nat.reduceBEq, Nat.reduceAdd, Nat.reduceSub, ta, tb, tn0, tn1, tn2, tn3, tn4, tn5, tn6, tn7, tn8, tn9, tn10, tn11, tn12]
    rw [hno] at hk
    exact ⟨fun _ => hk, fun c => absurd c (lt_out (n := 4) rfl)⟩
