-- tried otherwise
def trS (q i : Int32) (S : aS) : aS := fun f j => if q = 0 ∧ f = 0 then 0 else if q = 1 ∧ f = 11 then 0 else if q = 2 ∧ f = 14 ∧ j = 0 then i else if q = 3 ∧ f = 13 ∧ j = 0 then 24 else if q = 4 ∧ f = 12 then 9 else S f j
theorem trS_o {q i : Int32} {S : aS} {f j : Nat} (h : ¬ (f = 0 ∨ f = 11 ∨ f = 14 ∨ f = 13 ∨ f = 12)) : trS q i S f j = S f j := by
  unfold trS
  have h0 : ¬ f = 0 := fun e => h (Or.inl e)
  have h1 : ¬ f = 11 := fun e => h (Or.inr (Or.inl e))
  have h2 : ¬ f = 14 := fun e => h (Or.inr (Or.inr (Or.inl e)))
  have h3 : ¬ f = 13 := fun e => h (Or.inr (Or.inr (Or.inr (Or.inl e))))
  have h4 : ¬ f = 12 := fun e => h (Or.inr (Or.inr (Or.inr (Or.inr e))))
  simp [h0, h1, h2, h3, h4]
theorem p_warmAll {K : zQ} {I : zI} {L : zJ} {P : zP} {j : Nat} (hK : ∀ I' : zI, (∀ a b c, ¬ (a = 31 ∧ b = j) → I' a b c = I a b c) → (∀ c, c < 6 → I' 31 j c = 0) → K [] (I', L, P)) : mX8_warmAll K [.inr (.inr (8, j))] (I, L, P) := by
  show bX8_warmAll_2 K [some (.inr (.inr (8, j))), some (.inl 0)] [] (I, L, P)
  refine zinv 6 (fun n Z M => ∃ I' : zI, Z = [some (.inr (.inr (8, j))), some (.inl (nI n))] ∧ M = (I', L, P) ∧ (∀ a b c, ¬ (a = 31 ∧ b = j) → I' a b c = I a b c) ∧ ∀ c, c < n → I' 31 j c = 0) ?_ ?_ ⟨I, rfl, rfl, fun _ _ _ _ => rfl, fun c hc => absurd hc (by omega)⟩
  · rintro n Z M hn ⟨I', rfl, rfl, hI, hc⟩ self hself
    dsimp only [x_int, x_lng, x_ild, x_lld, x_ald, x_ist, x_ast, x_lst, x_inc, x_ii, x_id, x_i, x_ll, x_ld, x_l, x_cmp, x_i2l, x_l2i, x_if, x_ic, x_dup, x_pop, x_dup2, x_gI, x_gL, x_gR, x_g1, x_g0, x_gP, x_pI, x_pZ, x_pL, x_pP, x_al, x_as, x_all, x_asl, x_alr, x_len, x_cpy, x_m2, x_m1, x_m2l, x_m1l, x_call, x_cv, x_ri, x_rz, x_rl, x_rv, zg, zset, zbef, zlong, zcat, cond_true, cond_false, List.take, List.drop, rv1, rv2, rv3, rv4, rv5, rv6, rv7, sm0, sm1, bl0, bl1, bl2, bl3, bl4, bl5, bl6, bl7, bl8, List.nil_append, List.cons_append, List.length_cons, List.length_nil, Nat.reduceBEq, Nat.reduceAdd, Nat.reduceSub, ta, tb, tn0, tn1, tn2, tn3, tn4, tn5, tn6, tn7, tn8, tn9, tn10, tn11, tn12, zk_31, zl_31]
    rw [n_cl (n := n) (by omega), n_succ n]
    refine ⟨fun c => absurd c (lt_go (n := 6) rfl (by omega) hn), fun _ => ⟨n_zin hn (by decide), hself _ _ ⟨_, rfl, rfl, fun a b c q => ?_, fun c h => ?_⟩⟩⟩
    · show (if a = 31 ∧ b = j ∧ c = n then _ else I' a b c) = _
      rw [if_neg (fun e => q ⟨e.1, e.2.1⟩)]; exact hI a b c q
    · show (if 31 = 31 ∧ j = j ∧ c = n then (0 : Int32) else I' 31 j c) = _
      by_cases e : c = n
      · rw [if_pos ⟨rfl, rfl, e⟩]
      · rw [if_neg (fun z => e z.2.2)]; exact hc c (by omega)
  · rintro Z M ⟨I', rfl, rfl, hI, hc⟩ self
    dsimp only [x_int, x_lng, x_ild, x_lld, x_ald, x_ist, x_ast, x_lst, x_inc, x_ii, x_id, x_i, x_ll, x_ld, x_l, x_cmp, x_i2l, x_l2i, x_if, x_ic, x_dup, x_pop, x_dup2, x_gI, x_gL, x_gR, x_g1, x_g0, x_gP, x_pI, x_pZ, x_pL, x_pP, x_al, x_as, x_all, x_asl, x_alr, x_len, x_cpy, x_m2, x_m1, x_m2l, x_m1l, x_call, x_cv, x_ri, x_rz, x_rl, x_rv, zg, zset, zbef, zlong, zcat, cond_true, cond_false, List.take, List.drop, rv1, rv2, rv3, rv4, rv5, rv6, rv7, sm0, sm1, bl0, bl1, bl2, bl3, bl4, bl5, bl6, bl7, bl8, List.nil_append, List.cons_append, List.length_cons, List.length_nil, Nat.reduceBEq, Nat.reduceAdd, Nat.reduceSub, ta, tb, tn0, tn1, tn2, tn3, tn4, tn5, tn6, tn7, tn8, tn9, tn10, tn11, tn12]
    exact ⟨fun _ => hK I' hI hc, fun c => absurd c (lt_out (n := 6) rfl)⟩
theorem p_renewAll {K : zQ} {I : zI} {L : zJ} {P : zP} {j : Nat} (hK : ∀ I' : zI, (∀ a b c, ¬ (a = 32 ∧ b = j) → I' a b c = I a b c) → (∀ c, c < 6 → I' 32 j c = 0) → K [] (I', L, P)) : mX8_renewAll K [.inr (.inr (8, j))] (I, L, P) := by
  show bX8_renewAll_2 K [some (.inr (.inr (8, j))), some (.inl 0)] [] (I, L, P)
  refine zinv 6 (fun n Z M => ∃ I' : zI, Z = [some (.inr (.inr (8, j))), some (.inl (nI n))] ∧ M = (I', L, P) ∧ (∀ a b c, ¬ (a = 32 ∧ b = j) → I' a b c = I a b c) ∧ ∀ c, c < n → I' 32 j c = 0) ?_ ?_ ⟨I, rfl, rfl, fun _ _ _ _ => rfl, fun c hc => absurd hc (by omega)⟩
  · rintro n Z M hn ⟨I', rfl, rfl, hI, hc⟩ self hself
    dsimp only [x_int, x_lng, x_ild, x_lld, x_ald, x_ist, x_ast, x_lst, x_inc, x_ii, x_id, x_i, x_ll, x_ld, x_l, x_cmp, x_i2l, x_l2i, x_if, x_ic, x_dup, x_pop, x_dup2, x_gI, x_gL, x_gR, x_g1, x_g0, x_gP, x_pI, x_pZ, x_pL, x_pP, x_al, x_as, x_all, x_asl, x_alr, x_len, x_cpy, x_m2, x_m1, x_m2l, x_m1l, x_call, x_cv, x_ri, x_rz, x_rl, x_rv, zg, zset, zbef, zlong, zcat, cond_true, cond_false, List.take, List.drop, rv1, rv2, rv3, rv4, rv5, rv6, rv7, sm0, sm1, bl0, bl1, bl2, bl3, bl4, bl5, bl6, bl7, bl8, List.nil_append, List.cons_append, List.length_cons, List.length_nil, Nat.reduceBEq, Nat.reduceAdd, Nat.reduceSub, ta, tb, tn0, tn1, tn2, tn3, tn4, tn5, tn6, tn7, tn8, tn9, tn10, tn11, tn12, zk_32, zl_32]
    rw [n_cl (n := n) (by omega), n_succ n]
    refine ⟨fun c => absurd c (lt_go (n := 6) rfl (by omega) hn), fun _ => ⟨n_zin hn (by decide), hself _ _ ⟨_, rfl, rfl, fun a b c q => ?_, fun c h => ?_⟩⟩⟩
    · show (if a = 32 ∧ b = j ∧ c = n then _ else I' a b c) = _
      rw [if_neg (fun e => q ⟨e.1, e.2.1⟩)]; exact hI a b c q
    · show (if 32 = 32 ∧ j = j ∧ c = n then (0 : Int32) else I' 32 j c) = _
      by_cases e : c = n
      · rw [if_pos ⟨rfl, rfl, e⟩]
      · rw [if_neg (fun z => e z.2.2)]; exact hc c (by omega)
  · rintro Z M ⟨I', rfl, rfl, hI, hc⟩ self
    dsimp only [x_int, x_lng, x_ild, x_lld, x_ald, x_ist, x_ast, x_lst, x_inc, x_ii, x_id, x_i, x_ll, x_ld, x_l, x_cmp, x_i2l, x_l2i, x_if, x_ic, x_dup, x_pop, x_dup2, x_gI, x_gL, x_gR, x_g1, x_g0, x_gP, x_pI, x_pZ, x_pL, x_pP, x_al, x_as, x_all, x_asl, x_alr, x_len, x_cpy, x_m2, x_m1, x_m2l, x_m1l, x_call, x_cv, x_ri, x_rz, x_rl, x_rv, zg, zset, zbef, zlong, zcat, cond_true, cond_false, List.take, List.drop, rv1, rv2, rv3, rv4, rv5, rv6, rv7, sm0, sm1, bl0, bl1, bl2, bl3, bl4, bl5, bl6, bl7, bl8, List.nil_append, List.cons_append, List.length_cons, List.length_nil, Nat.reduceBEq, Nat.reduceAdd, Nat.reduceSub, ta, tb, tn0, tn1, tn2, tn3, tn4, tn5, tn6, tn7, tn8, tn9, tn10, tn11, tn12]
    exact ⟨fun _ => hK I' hI hc, fun c => absurd c (lt_out (n := 6) rfl)⟩
theorem p_hardenAll {K : zQ} {I : zI} {L : zJ} {P : zP} {j : Nat} (hK : ∀ I' : zI, (∀ a b c, ¬ (a = 34 ∧ b = j) → I' a b c = I a b c) → (∀ c, c < 4 → I' 34 j c = 9) → K [] (I', L, P)) : mX8_hardenAll K [.inr (.inr (8, j))] (I, L, P) := by
  show bX8_hardenAll_2 K [some (.inr (.inr (8, j))), some (.inl 0)] [] (I, L, P)
  refine zinv 4 (fun n Z M => ∃ I' : zI, Z = [some (.inr (.inr (8, j))), some (.inl (nI n))] ∧ M = (I', L, P) ∧ (∀ a b c, ¬ (a = 34 ∧ b = j) → I' a b c = I a b c) ∧ ∀ c, c < n → I' 34 j c = 9) ?_ ?_ ⟨I, rfl, rfl, fun _ _ _ _ => rfl, fun c hc => absurd hc (by omega)⟩
  · rintro n Z M hn ⟨I', rfl, rfl, hI, hc⟩ self hself
    dsimp only [x_int, x_lng, x_ild, x_lld, x_ald, x_ist, x_ast, x_lst, x_inc, x_ii, x_id, x_i, x_ll, x_ld, x_l, x_cmp, x_i2l, x_l2i, x_if, x_ic, x_dup, x_pop, x_dup2, x_gI, x_gL, x_gR, x_g1, x_g0, x_gP, x_pI, x_pZ, x_pL, x_pP, x_al, x_as, x_all, x_asl, x_alr, x_len, x_cpy, x_m2, x_m1, x_m2l, x_m1l, x_call, x_cv, x_ri, x_rz, x_rl, x_rv, zg, zset, zbef, zlong, zcat, cond_true, cond_false, List.take, List.drop, rv1, rv2, rv3, rv4, rv5, rv6, rv7, sm0, sm1, bl0, bl1, bl2, bl3, bl4, bl5, bl6, bl7, bl8, List.nil_append, List.cons_append, List.length_cons, List.length_nil, Nat.reduceBEq, Nat.reduceAdd, Nat.reduceSub, ta, tb, tn0, tn1, tn2, tn3, tn4, tn5, tn6, tn7, tn8, tn9, tn10, tn11, tn12, zk_34, zl_34]
    rw [n_cl (n := n) (by omega), n_succ n]
    refine ⟨fun c => absurd c (lt_go (n := 4) rfl (by omega) hn), fun _ => ⟨n_zin hn (by decide), hself _ _ ⟨_, rfl, rfl, fun a b c q => ?_, fun c h => ?_⟩⟩⟩
    · show (if a = 34 ∧ b = j ∧ c = n then _ else I' a b c) = _
      rw [if_neg (fun e => q ⟨e.1, e.2.1⟩)]; exact hI a b c q
    · show (if 34 = 34 ∧ j = j ∧ c = n then (9 : Int32) else I' 34 j c) = _
      by_cases e : c = n
      · rw [if_pos ⟨rfl, rfl, e⟩]
      · rw [if_neg (fun z => e z.2.2)]; exact hc c (by omega)
  · rintro Z M ⟨I', rfl, rfl, hI, hc⟩ self
    dsimp only [x_int, x_lng, x_ild, x_lld, x_ald, x_ist, x_ast, x_lst, x_inc, x_ii, x_id, x_i, x_ll, x_ld, x_l, x_cmp, x_i2l, x_l2i, x_if, x_ic, x_dup, x_pop, x_dup2, x_gI, x_gL, x_gR, x_g1, x_g0, x_gP, x_pI, x_pZ, x_pL, x_pP, x_al, x_as, x_all, x_asl, x_alr, x_len, x_cpy, x_m2, x_m1, x_m2l, x_m1l, x_call, x_cv, x_ri, x_rz, x_rl, x_rv, zg, zset, zbef, zlong, zcat, cond_true, cond_false, List.take, List.drop, rv1, rv2, rv3, rv4, rv5, rv6, rv7, sm0, sm1, bl0, bl1, bl2, bl3, bl4, bl5, bl6, bl7, bl8, List.nil_append, List.cons_append, List.length_cons, List.length_nil, Nat.reduceBEq, Nat.reduceAdd, Nat.reduceSub, ta, tb, tn0, tn1, tn2, tn3, tn4, tn5, tn6, tn7, tn8, tn9, tn10, tn11, tn12]
    exact ⟨fun _ => hK I' hI hc, fun c => absurd c (lt_out (n := 4) rfl)⟩
abbrev okT (A : aA) (q i n : Int32) : Prop := okI q 0 4 ∧ okI n 0 99 ∧ (if q = 2 then okN (A.T.1 0) i else i = 0)
def v_tried (A : aA) (q i n : Int32) : Int32 := if okT A q i n then nI (aWrong A.T (aPass A.T false true n.toNatClampNeg (trS q i A.S))) + nI (aMany A.T (aPass A.T false true n.toNatClampNeg (trS q i A.S)) 2) - nI (aWrong A.T A.S) - nI (aMany A.T A.S 2) else -1
theorem CS_tr {I I' : zI} {T : aT} {S : aS} {q i : Int32} (h6 : T.1 0 ≤ 6) (w4 : T.1 1 ≤ 4) (hS : CS I 2 T S)
    (e : ∀ a c, csK a c = true → ¬ (q = 0 ∧ a = 31) → ¬ (q = 1 ∧ a = 32) → ¬ (q = 2 ∧ a = 8 ∧ c = 16) → ¬ (q = 3 ∧ a = 8 ∧ c = 15) → ¬ (q = 4 ∧ a = 34) → I' a 2 c = I a 2 c)
    (e0 : q = 0 → ∀ c, c < 6 → I' 31 2 c = 0) (e1 : q = 1 → ∀ c, c < 6 → I' 32 2 c = 0) (e2 : q = 2 → I' 8 2 16 = i) (e3 : q = 3 → I' 8 2 15 = 24) (e4 : q = 4 → ∀ c, c < 4 → I' 34 2 c = 9) : CS I' 2 T (trS q i S) := by
  obtain ⟨a1, a2, a3, a4, a5, a6, a7, a8⟩ := hS
  have g8 : (trS q i S) 8 = S 8 := by funext j; exact trS_o (by omega)
  have g7 : (trS q i S) 7 = S 7 := by funext j; exact trS_o (by omega)
  refine ⟨fun x hx => ⟨?_, ?_, ?_⟩, fun x hx => ⟨?_, ?_⟩, fun x hx => ?_, ?_, ?_, ?_, ?_, ?_⟩
  · by_cases z : q = 0
    · rw [e0 z x (by omega)]; simp [trS, z]
    · rw [e 31 x rfl (by simp [z]) (by simp) (by simp) (by simp) (by simp), (a1 x hx).1]; simp [trS, z]
  · rw [e 33 x rfl (by simp) (by simp) (by simp) (by simp) (by simp), (a1 x hx).2.1, trS_o (by omega)]
  · by_cases z : q = 1
    · rw [e1 z x (by omega)]; simp [trS, z]
    · rw [e 32 x rfl (by simp) (by simp [z]) (by simp) (by simp) (by simp), (a1 x hx).2.2]; simp [trS, z]
  · by_cases z : q = 4
    · rw [e4 z x (by omega)]; simp [trS, z]
    · rw [e 34 x rfl (by simp) (by simp) (by simp) (by simp) (by simp [z]), (a2 x hx).1]; simp [trS, z]
  · rw [e 35 x rfl (by simp) (by simp) (by simp) (by simp) (by simp), (a2 x hx).2, trS_o (by omega)]
  · obtain ⟨b1, b2, b3, b4, b5⟩ := a3 x hx
    rw [e 36 x rfl (by simp) (by simp) (by simp) (by simp) (by simp), e 37 x rfl (by simp) (by simp) (by simp) (by simp) (by simp), e 38 x rfl (by simp) (by simp) (by simp) (by simp) (by simp), e 39 x rfl (by simp) (by simp) (by simp) (by simp) (by simp), e 40 x rfl (by simp) (by simp) (by simp) (by simp) (by simp), g8, trS_o (f := 3) (by omega), trS_o (f := 4) (by omega), trS_o (f := 5) (by omega), trS_o (f := 6) (by omega)]
    exact ⟨b1, b2, b3, b4, b5⟩
  · rw [e 8 _ rfl (by simp) (by simp) (by simp) (by simp) (by simp), a4, trS_o (by omega)]
  · rw [e 8 _ rfl (by simp) (by simp) (by simp) (by simp) (by simp), a5, trS_o (by omega)]
  · by_cases z : q = 3
    · rw [e3 z]; simp [trS, z]
    · rw [e 8 _ rfl (by simp) (by simp) (by simp) (by simp [z]) (by simp), a6]; simp [trS, z]
  · by_cases z : q = 2
    · rw [e2 z]; simp [trS, z]
    · rw [e 8 _ rfl (by simp) (by simp) (by simp [z]) (by simp) (by simp), a7]; simp [trS, z]
  · rw [e 8 _ rfl (by simp) (by simp) (by simp) (by simp) (by simp), a8, g7]
theorem i_tr (a b c d : Int32) : a - c + b - d = a + b - c - d := by
  have : a - c + b = a + b - c := by rw [Int32.sub_eq_add_neg, Int32.sub_eq_add_neg, Int32.add_assoc, Int32.add_comm (-c) b, ← Int32.add_assoc]
  rw [this]
theorem c_tried {K : zQ} {I : zI} {L : zJ} {P : zP} {A : aA} {q i n : Int32} (wT : WT A.T) (wS : WS A.T A.S) (hC : RC A I P) (hK : ∀ (I' : zI) (L' : zJ) (P' : zP), frQ I I' → zeL2 L L' → frP P P' → K [.inl (v_tried A q i n)] (I', L', P')) : mX11_tried K [kbR, .inl q, .inl i, .inl n] (I, L, P) := by
  obtain ⟨t, hT0, h110, -, -⟩ := hC.b
  have bad : ¬ okT A q i n → K [.inl (-1)] (I, L, P) := fun h => by
    have hk := hK I L P frQ.rf zeL2.rf frP.rf
    unfold v_tried at hk
    rw [if_neg h] at hk; exact hk
  have good : okT A q i n → bX11_tried_38 K [some kbR, some (.inl q), some (.inl i), some (.inl n)] [] (I, L, P) := fun h => by
    unfold v_tried at hK
    rw [if_pos h] at hK
    obtain ⟨hq, hn, hi⟩ := h
    obtain ⟨m, rfl, hm⟩ := span_of hn
    rw [n_cl (show m < 2147483648 by omega)] at hK
    unfold bX11_tried_38
    dsimp only [x_int, x_lng, x_ild, x_lld, x_ald, x_ist, x_ast, x_lst, x_inc, x_ii, x_id, x_i, x_ll, x_ld, x_l, x_cmp, x_i2l, x_l2i, x_if, x_ic, x_dup, x_pop, x_dup2, x_gI, x_gL, x_gR, x_g1, x_g0, x_gP, x_pI, x_pZ, x_pL, x_pP, x_al, x_as, x_all, x_asl, x_alr, x_len, x_cpy, x_m2, x_m1, x_m2l, x_m1l, x_call, x_cv, x_ri, x_rz, x_rl, x_rv, zg, zset, zbef, zlong, zcat, cond_true, cond_false, List.take, List.drop, rv1, rv2, rv3, rv4, rv5, rv6, rv7, sm0, sm1, bl0, bl1, bl2, bl3, bl4, bl5, bl6, bl7, bl8, List.nil_append, List.cons_append, List.length_cons, List.length_nil, Nat.reduceBEq, Nat.reduceAdd, Nat.reduceSub, ta, tb, tn0, tn1, tn2, tn3, tn4, tn5, tn6, tn7, tn8, tn9, tn10, tn11, tn12]
    refine p_trial hC (fun t I1 P1 q1 q2 hT h11 h82 h80 hS2 hS0 => ?_)
    have h6 := hT.h6
    have w4 := hT.w4
    -- the days, and the counts
    have fin : ∀ I3 : zI, frQ I I3 → CT I3 t A.T → CS I3 0 A.T A.S → CS I3 2 A.T (trS q i A.S) → bX11_tried_130 K [some kbR, some (.inl q), some (.inl i), some (.inl (nI m))] [] (I3, L, P1) := fun I3 f3 hT3 hS03 hS3 => by
      unfold bX11_tried_130
      dsimp only [x_int, x_lng, x_ild, x_lld, x_ald, x_ist, x_ast, x_lst, x_inc, x_ii, x_id, x_i, x_ll, x_ld, x_l, x_cmp, x_i2l, x_l2i, x_if, x_ic, x_dup, x_pop, x_dup2, x_gI, x_gL, x_gR, x_g1, x_g0, x_gP, x_pI, x_pZ, x_pL, x_pP, x_al, x_as, x_all, x_asl, x_alr, x_len, x_cpy, x_m2, x_m1, x_m2l, x_m1l, x_call, x_cv, x_ri, x_rz, x_rl, x_rv, zg, zset, zbef, zlong, zcat, cond_true, cond_false, List.take, List.drop, rv1, rv2, rv3, rv4, rv5, rv6, rv7, sm0, sm1, bl0, bl1, bl2, bl3, bl4, bl5, bl6, bl7, bl8, List.nil_append, List.cons_append, List.length_cons, List.length_nil, Nat.reduceBEq, Nat.reduceAdd, Nat.reduceSub, ta, tb, tn0, tn1, tn2, tn3, tn4, tn5, tn6, tn7, tn8, tn9, tn10, tn11, tn12]
      refine p_pass (fd := false) (dr := false) (n := m) (by omega) (Or.inl ⟨rfl, rfl⟩) (Or.inl ⟨rfl, rfl⟩) h82 hT3 hS3 wT (wS.of3 (fun j => trS_o (by omega))) (fun I2 L2 hL2 hI2 hS4 => ?_)
      have q3 := frS_Q hI2
      have hT4 := q3.CT hT3
      have hS04 := q3.CS (by decide) hS03
      have o7 : off7 (aPass A.T false false m (trS q i A.S)) (aPass A.T false true m (trS q i A.S)) := off7_pass off7_rf _ _ _ _
      have hk := hK I2 L2 P1 (f3.tr q3) hL2 q2
      rw [← off7_many o7, ← off7_wrong o7] at hk
      generalize aPass A.T false false m (trS q i A.S) = S1 at *
      dsimp only [x_int, x_lng, x_ild, x_lld, x_ald, x_ist, x_ast, x_lst, x_inc, x_ii, x_id, x_i, x_ll, x_ld, x_l, x_cmp, x_i2l, x_l2i, x_if, x_ic, x_dup, x_pop, x_dup2, x_gI, x_gL, x_gR, x_g1, x_g0, x_gP, x_pI, x_pZ, x_pL, x_pP, x_al, x_as, x_all, x_asl, x_alr, x_len, x_cpy, x_m2, x_m1, x_m2l, x_m1l, x_call, x_cv, x_ri, x_rz, x_rl, x_rv, zg, zset, zbef, zlong, zcat, cond_true, cond_false, List.take, List.drop, rv1, rv2, rv3, rv4, rv5, rv6, rv7, sm0, sm1, bl0, bl1, bl2, bl3, bl4, bl5, bl6, bl7, bl8, List.nil_append, List.cons_append, List.length_cons, List.length_nil, Nat.reduceBEq, Nat.reduceAdd, Nat.reduceSub, ta, tb, tn0, tn1, tn2, tn3, tn4, tn5, tn6, tn7, tn8, tn9, tn10, tn11, tn12]
      refine p_manyWrong h82 hT4 hS4 ?_
      dsimp only [x_int, x_lng, x_ild, x_lld, x_ald, x_ist, x_ast, x_lst, x_inc, x_ii, x_id, x_i, x_ll, x_ld, x_l, x_cmp, x_i2l, x_l2i, x_if, x_ic, x_dup, x_pop, x_dup2, x_gI, x_gL, x_gR, x_g1, x_g0, x_gP, x_pI, x_pZ, x_pL, x_pP, x_al, x_as, x_all, x_asl, x_alr, x_len, x_cpy, x_m2, x_m1, x_m2l, x_m1l, x_call, x_cv, x_ri, x_rz, x_rl, x_rv, zg, zset, zbef, zlong, zcat, cond_true, cond_false, List.take, List.drop, rv1, rv2, rv3, rv4, rv5, rv6, rv7, sm0, sm1, bl0, bl1, bl2, bl3, bl4, bl5, bl6, bl7, bl8, List.nil_append, List.cons_append, List.length_cons, List.length_nil, Nat.reduceBEq, Nat.reduceAdd, Nat.reduceSub, ta, tb, tn0, tn1, tn2, tn3, tn4, tn5, tn6, tn7, tn8, tn9, tn10, tn11, tn12]
      refine p_manyWrong h80 hT4 hS04 ?_
      dsimp only [x_int, x_lng, x_ild, x_lld, x_ald, x_ist, x_ast, x_lst, x_inc, x_ii, x_id, x_i, x_ll, x_ld, x_l, x_cmp, x_i2l, x_l2i, x_if, x_ic, x_dup, x_pop, x_dup2, x_gI, x_gL, x_gR, x_g1, x_g0, x_gP, x_pI, x_pZ, x_pL, x_pP, x_al, x_as, x_all, x_asl, x_alr, x_len, x_cpy, x_m2, x_m1, x_m2l, x_m1l, x_call, x_cv, x_ri, x_rz, x_rl, x_rv, zg, zset, zbef, zlong, zcat, cond_true, cond_false, List.take, List.drop, rv1, rv2, rv3, rv4, rv5, rv6, rv7, sm0, sm1, bl0, bl1, bl2, bl3, bl4, bl5, bl6, bl7, bl8, List.nil_append, List.cons_append, List.length_cons, List.length_nil, Nat.reduceBEq, Nat.reduceAdd, Nat.reduceSub, ta, tb, tn0, tn1, tn2, tn3, tn4, tn5, tn6, tn7, tn8, tn9, tn10, tn11, tn12]
      refine p_manyOf h82 hT4 hS4 ?_
      dsimp only [x_int, x_lng, x_ild, x_lld, x_ald, x_ist, x_ast, x_lst, x_inc, x_ii, x_id, x_i, x_ll, x_ld, x_l, x_cmp, x_i2l, x_l2i, x_if, x_ic, x_dup, x_pop, x_dup2, x_gI, x_gL, x_gR, x_g1, x_g0, x_gP, x_pI, x_pZ, x_pL, x_pP, x_al, x_as, x_all, x_asl, x_alr, x_len, x_cpy, x_m2, x_m1, x_m2l, x_m1l, x_call, x_cv, x_ri, x_rz, x_rl, x_rv, zg, zset, zbef, zlong, zcat, cond_true, cond_false, List.take, List.drop, rv1, rv2, rv3, rv4, rv5, rv6, rv7, sm0, sm1, bl0, bl1, bl2, bl3, bl4, bl5, bl6, bl7, bl8, List.nil_append, List.cons_append, List.length_cons, List.length_nil, Nat.reduceBEq, Nat.reduceAdd, Nat.reduceSub, ta, tb, tn0, tn1, tn2, tn3, tn4, tn5, tn6, tn7, tn8, tn9, tn10, tn11, tn12]
      refine p_manyOf h80 hT4 hS04 ?_
      dsimp only [x_int, x_lng, x_ild, x_lld, x_ald, x_ist, x_ast, x_lst, x_inc, x_ii, x_id, x_i, x_ll, x_ld, x_l, x_cmp, x_i2l, x_l2i, x_if, x_ic, x_dup, x_pop, x_dup2, x_gI, x_gL, x_gR, x_g1, x_g0, x_gP, x_pI, x_pZ, x_pL, x_pP, x_al, x_as, x_all, x_asl, x_alr, x_len, x_cpy, x_m2, x_m1, x_m2l, x_m1l, x_call, x_cv, x_ri, x_rz, x_rl, x_rv, zg, zset, zbef, zlong, zcat, cond_true, cond_false, List.take, List.drop, rv1, rv2, rv3, rv4, rv5, rv6, rv7, sm0, sm1, bl0, bl1, bl2, bl3, bl4, bl5, bl6, bl7, bl8, List.nil_append, List.cons_append, List.length_cons, List.length_nil, Nat.reduceBEq, Nat.reduceAdd, Nat.reduceSub, ta, tb, tn0, tn1, tn2, tn3, tn4, tn5, tn6, tn7, tn8, tn9, tn10, tn11, tn12]
      rw [i_tr]
      unfold aMany at hk
      exact hk
    dsimp only [x_int, x_lng, x_ild, x_lld, x_ald, x_ist, x_ast, x_lst, x_inc, x_ii, x_id, x_i, x_ll, x_ld, x_l, x_cmp, x_i2l, x_l2i, x_if, x_ic, x_dup, x_pop, x_dup2, x_gI, x_gL, x_gR, x_g1, x_g0, x_gP, x_pI, x_pZ, x_pL, x_pP, x_al, x_as, x_all, x_asl, x_alr, x_len, x_cpy, x_m2, x_m1, x_m2l, x_m1l, x_call, x_cv, x_ri, x_rz, x_rl, x_rv, zg, zset, zbef, zlong, zcat, cond_true, cond_false, List.take, List.drop, rv1, rv2, rv3, rv4, rv5, rv6, rv7, sm0, sm1, bl0, bl1, bl2, bl3, bl4, bl5, bl6, bl7, bl8, List.nil_append, List.cons_append, List.length_cons, List.length_nil, Nat.reduceBEq, Nat.reduceAdd, Nat.reduceSub, ta, tb, tn0, tn1, tn2, tn3, tn4, tn5, tn6, tn7, tn8, tn9, tn10, tn11, tn12, g_sw]
    have qs : ∀ I3 : zI, (∀ a b c, scrC a b = false → I3 a b c = I1 a b c) → frQ I I3 := fun I3 h => q1.tr h
    refine ⟨fun e0 => p_warmAll (fun I3 hI3 hc => ?_), fun e0 => ⟨fun e1 => p_renewAll (fun I3 hI3 hc => ?_), fun e1 => ⟨fun e2 => ?_, fun e2 => ⟨fun e3 => ?_, fun e3 => p_hardenAll (fun I3 hI3 hc => ?_)⟩⟩⟩⟩
    · have fq : frQ I1 I3 := fun a b c q => hI3 a b c (fun e => by rw [e.1, e.2] at q; exact absurd q (by decide))
      exact fin I3 (q1.tr fq) (fq.CT hT) (fq.CS (by decide) hS0) (CS_tr h6 w4 hS2 (fun a c z z0 z1 z2 z3 z4 => hI3 a 2 c (fun e => z0 ⟨e0, e.1⟩)) (fun _ => hc) (fun e => by rw [e0] at e; exact absurd e (by decide)) (fun e => by rw [e0] at e; exact absurd e (by decide)) (fun e => by rw [e0] at e; exact absurd e (by decide)) (fun e => by rw [e0] at e; exact absurd e (by decide)))
    · have fq : frQ I1 I3 := fun a b c q => hI3 a b c (fun e => by rw [e.1, e.2] at q; exact absurd q (by decide))
      exact fin I3 (q1.tr fq) (fq.CT hT) (fq.CS (by decide) hS0) (CS_tr h6 w4 hS2 (fun a c z z0 z1 z2 z3 z4 => hI3 a 2 c (fun e => z1 ⟨e1, e.1⟩)) (fun e => absurd e e0) (fun _ => hc) (fun e => by rw [e1] at e; exact absurd e (by decide)) (fun e => by rw [e1] at e; exact absurd e (by decide)) (fun e => by rw [e1] at e; exact absurd e (by decide)))
    · have fq : frQ I1 (zsI (I1, L, P1) 8 2 16 i).1 := frQ_set frQ.rf rfl
      exact fin _ (q1.tr fq) (fq.CT hT) (fq.CS (by decide) hS0) (CS_tr h6 w4 hS2 (fun a c z z0 z1 z2 z3 z4 => by
        show (if a = 8 ∧ 2 = 2 ∧ c = 16 then i else I1 a 2 c) = _
        rw [if_neg (fun e => z2 ⟨e2, e.1, e.2.2⟩)]) (fun e => absurd e e0) (fun e => absurd e e1) (fun _ => by simp [zsI]) (fun e => by rw [e2] at e; exact absurd e (by decide)) (fun e => by rw [e2] at e; exact absurd e (by decide)))
    · have fq : frQ I1 (zsI (I1, L, P1) 8 2 15 24).1 := frQ_set frQ.rf rfl
      exact fin _ (q1.tr fq) (fq.CT hT) (fq.CS (by decide) hS0) (CS_tr h6 w4 hS2 (fun a c z z0 z1 z2 z3 z4 => by
        show (if a = 8 ∧ 2 = 2 ∧ c = 15 then 24 else I1 a 2 c) = _
        rw [if_neg (fun e => z3 ⟨e3, e.1, e.2.2⟩)]) (fun e => absurd e e0) (fun e => absurd e e1) (fun e => absurd e e2) (fun _ => by simp [zsI]) (fun e => by rw [e3] at e; exact absurd e (by decide)))
    · have e4 : q = 4 := by
        obtain ⟨x, rfl, hx⟩ := n_nn hq.1
        have := hq.2
        rw [show (4 : Int32) = nI 4 from rfl, n_le hx (by decide)] at this
        have h0 : ¬ x = 0 := fun q => e0 (by rw [q]; rfl)
        have h1 : ¬ x = 1 := fun q => e1 (by rw [q]; rfl)
        have h2 : ¬ x = 2 := fun q => e2 (by rw [q]; rfl)
        have h3 : ¬ x = 3 := fun q => e3 (by rw [q]; rfl)
        rw [show x = 4 by omega]; rfl
      have fq : frQ I1 I3 := fun a b c q => hI3 a b c (fun e => by rw [e.1, e.2] at q; exact absurd q (by decide))
      exact fin I3 (q1.tr fq) (fq.CT hT) (fq.CS (by decide) hS0) (CS_tr h6 w4 hS2 (fun a c z z0 z1 z2 z3 z4 => hI3 a 2 c (fun e => z4 ⟨e4, e.1⟩)) (fun e => absurd e e0) (fun e => absurd e e1) (fun e => absurd e e2) (fun e => absurd e e3) (fun _ => hc))
  show bX11_tried_0 K [some (.inr (.inr (11,0))), some (.inl q), some (.inl i), some (.inl n)] [] (I, L, P)
  unfold bX11_tried_0
  dsimp only [x_int, x_lng, x_ild, x_lld, x_ald, x_ist, x_ast, x_lst, x_inc, x_ii, x_id, x_i, x_ll, x_ld, x_l, x_cmp, x_i2l, x_l2i, x_if, x_ic, x_dup, x_pop, x_dup2, x_gI, x_gL, x_gR, x_g1, x_g0, x_gP, x_pI, x_pZ, x_pL, x_pP, x_al, x_as, x_all, x_asl, x_alr, x_len, x_cpy, x_m2, x_m1, x_m2l, x_m1l, x_call, x_cv, x_ri, x_rz, x_rl, x_rv, zg, zset, zbef, zlong, zcat, cond_true, cond_false, List.take, List.drop, rv1, rv2, rv3, rv4, rv5, rv6, rv7, sm0, sm1, bl0, bl1, bl2, bl3, bl4, bl5, bl6, bl7, bl8, List.nil_append, List.cons_append, List.length_cons, List.length_nil, Nat.reduceBEq, Nat.reduceAdd, Nat.reduceSub, ta, tb, tn0, tn1, tn2, tn3, tn4, tn5, tn6, tn7, tn8, tn9, tn10, tn11, tn12, bX11_tried_36]
  refine ⟨fun c => bad (fun h => Int32.not_lt.mpr h.1.1 c), fun c => ⟨fun d => bad (fun h => Int32.not_lt.mpr h.1.2 d), fun d => p_isSpan (fun ok => ?_) (fun no => ?_)⟩⟩
  · dsimp only [x_int, x_lng, x_ild, x_lld, x_ald, x_ist, x_ast, x_lst, x_inc, x_ii, x_id, x_i, x_ll, x_ld, x_l, x_cmp, x_i2l, x_l2i, x_if, x_ic, x_dup, x_pop, x_dup2, x_gI, x_gL, x_gR, x_g1, x_g0, x_gP, x_pI, x_pZ, x_pL, x_pP, x_al, x_as, x_all, x_asl, x_alr, x_len, x_cpy, x_m2, x_m1, x_m2l, x_m1l, x_call, x_cv, x_ri, x_rz, x_rl, x_rv, zg, zset, zbef, zlong, zcat, cond_true, cond_false, List.take, List.drop, rv1, rv2, rv3, rv4, rv5, rv6, rv7, sm0, sm1, bl0, bl1, bl2, bl3, bl4, bl5, bl6, bl7, bl8, List.nil_append, List.cons_append, List.length_cons, List.length_nil, Nat.reduceBEq, Nat.reduceAdd, Nat.reduceSub, ta, tb, tn0, tn1, tn2, tn3, tn4, tn5, tn6, tn7, tn8, tn9, tn10, tn11, tn12, bX11_tried_36]
    refine ⟨fun z => absurd z (by decide), fun _ => ⟨fun e2 => p_isHandC hT0 h110 (fun okh => ?_) (fun no => ?_), fun e2 => ⟨fun ei => good ⟨⟨Int32.not_lt.mp c, Int32.not_lt.mp d⟩, ok, by rw [if_neg e2]; exact ei⟩, fun ei => bad (fun h => ei (by have := h.2.2; rw [if_neg e2] at this; exact this))⟩⟩⟩
    · exact ⟨fun z => absurd z (by decide), fun _ => good ⟨⟨Int32.not_lt.mp c, Int32.not_lt.mp d⟩, ok, by rw [if_pos e2]; exact okh⟩⟩
    · exact ⟨fun _ => bad (fun h => no (by have := h.2.2; rw [if_pos e2] at this; exact this)), fun z => absurd rfl z⟩
  · exact ⟨fun _ => bad (fun h => no h.2.1), fun z => absurd rfl z⟩
