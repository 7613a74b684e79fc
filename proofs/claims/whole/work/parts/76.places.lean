-- by which places all are told apart
theorem bitK : ∀ k, k < 6 → ∀ s, s < 64 → (nI s >>> (nI k &&& 31)) &&& 1 = (if s.testBit k = true then 1 else 0) := by decide +kernel
def pop6 (s : Nat) : Nat := zcount (fun i => s.testBit i) 6
theorem pop6_b : ∀ s, s < 64 → bcf (nI s) = nI (pop6 s) := by decide +kernel
def unl (T : aT) (s a b : Nat) : Nat → Bool
  | 0 => false
  | k + 1 => unl T s a b k || (s.testBit k && decide (¬ T.2.1 3 (6 * a + k) = T.2.1 3 (6 * b + k)))
theorem unl_s (T : aT) (s a b k : Nat) : unl T s a b (k + 1) = (unl T s a b k || (s.testBit k && decide (¬ T.2.1 3 (6 * a + k) = T.2.1 3 (6 * b + k)))) := rfl
theorem unl_c {T : aT} {s a b : Nat} : ∀ k, unl T s a b k = unl T s b a k := by
  intro k
  induction k with
  | zero => rfl
  | succ k ih =>
    rw [unl_s, unl_s, ih]
    congr 2
    exact decide_eq_decide.mpr ⟨fun x y => x y.symm, fun x y => x y.symm⟩
theorem unl_up {T : aT} {s a b k : Nat} (h : unl T s a b k = true) : ∀ j, unl T s a b (k + j) = true := by
  intro j
  induction j with
  | zero => exact h
  | succ j ih => rw [← Nat.add_assoc, unl_s, ih]; rfl
abbrev tla (T : aT) (s : Nat) : Prop := ∀ a, a < T.1 0 → ∀ b, b < a → unl T s b a 6 = true
theorem p_isUnlike {K : zQ} {I : zI} {L : zJ} {P : zP} {T : aT} {x y a b s : Nat} (hs : s < 64) (ha : ∀ k, k < 6 → I 14 x k = T.2.1 3 (6 * a + k)) (hb : ∀ k, k < 6 → I 14 y k = T.2.1 3 (6 * b + k)) (hK : K [.inl (if unl T s a b 6 = true then 1 else 0)] (I, L, P)) : mX1_isUnlike K [.inr (.inr (1, x)), .inr (.inr (1, y)), .inl (nI s)] (I, L, P) := by
  show bX1_isUnlike_2 K [some (.inr (.inr (1, x))), some (.inr (.inr (1, y))), some (.inl (nI s)), some (.inl 0)] [] (I, L, P)
  refine zinv 6 (fun k Z M => Z = [some (.inr (.inr (1, x))), some (.inr (.inr (1, y))), some (.inl (nI s)), some (.inl (nI k))] ∧ M = (I, L, P) ∧ unl T s a b k = false) ?_ ?_ ⟨rfl, rfl, rfl⟩
  · rintro k Z M hk ⟨rfl, rfl, hu⟩ self hself
    have st := unl_s T s a b k
    rw [hu, Bool.false_or] at st
    have zk : zin (nI k) 6 := n_zin hk (by decide)
    dsimp only [x_int, x_lng, x_ild, x_lld, x_ald, x_ist, x_ast, x_lst, x_inc, x_ii, x_id, x_i, x_ll, x_ld, x_l, x_cmp, x_i2l, x_l2i, x_if, x_ic, x_dup, x_pop, x_dup2, x_gI, x_gL, x_gR, x_g1, x_g0, x_gP, x_pI, x_pZ, x_pL, x_pP, x_al, x_as, x_all, x_asl, x_alr, x_len, x_cpy, x_m2, x_m1, x_m2l, x_m1l, x_call, x_cv, x_ri, x_rz, x_rl, x_rv, zg, zset, zbef, zlong, zcat, cond_true, cond_false, List.take, List.drop, rv1, rv2, rv3, rv4, rv5, rv6, rv7, sm0, sm1, bl0, bl1, bl2, bl3, bl4, bl5, bl6, bl7, bl8, List.nil_append, List.cons_append, List.length_cons, List.length_nil, Nat.reduceBEq, Nat.reduceAdd, Nat.reduceSub, ta, tb, tn0, tn1, tn2, tn3, tn4, tn5, tn6, tn7, tn8, tn9, tn10, tn11, tn12, zk_14, zl_14, bX1_isUnlike_33]
    rw [bitK k hk s hs, n_cl (n := k) (by omega), ha k hk, hb k hk, n_succ k]
    refine ⟨fun q => absurd q (lt_go (n := 6) rfl (by omega) hk), fun _ => ⟨fun q => ?_, fun q => ⟨zk, zk, fun c => ?_, fun c => ⟨Or.inr rfl, ?_⟩⟩⟩⟩
    · have tb : s.testBit k = false := by
        cases e : s.testBit k with
        | false => rfl
        | true => rw [e, if_pos rfl] at q; exact absurd q (by decide)
      rw [tb, Bool.false_and] at st
      exact hself _ _ ⟨rfl, rfl, st⟩
    · rw [decide_eq_false (fun z => z c), Bool.and_false] at st
      exact hself _ _ ⟨rfl, rfl, st⟩
    · have tb : s.testBit k = true := by
        cases e : s.testBit k with
        | true => rfl
        | false => rw [e, if_neg (by decide)] at q; exact absurd rfl q
      rw [tb, decide_eq_true c] at st
      have := unl_up (j := 6 - (k + 1)) st
      rw [show k + 1 + (6 - (k + 1)) = 6 by omega] at this
      rw [if_pos this] at hK
      exact hK
  · rintro Z M ⟨rfl, rfl, hu⟩ self
    rw [hu] at hK
    dsimp only [x_int, x_lng, x_ild, x_lld, x_ald, x_ist, x_ast, x_lst, x_inc, x_ii, x_id, x_i, x_ll, x_ld, x_l, x_cmp, x_i2l, x_l2i, x_if, x_ic, x_dup, x_pop, x_dup2, x_gI, x_gL, x_gR, x_g1, x_g0, x_gP, x_pI, x_pZ, x_pL, x_pP, x_al, x_as, x_all, x_asl, x_alr, x_len, x_cpy, x_m2, x_m1, x_m2l, x_m1l, x_call, x_cv, x_ri, x_rz, x_rl, x_rv, zg, zset, zbef, zlong, zcat, cond_true, cond_false, List.take, List.drop, rv1, rv2, rv3, rv4, rv5, rv6, rv7, sm0, sm1, bl0, bl1, bl2, bl3, bl4, bl5, bl6, bl7, bl8, List.nil_append, List.cons_append, List.length_cons, List.length_nil, Nat.reduceBEq, Nat.reduceAdd, Nat.reduceSub, ta, tb, tn0, tn1, tn2, tn3, tn4, tn5, tn6, tn7, tn8, tn9, tn10, tn11, tn12]
    exact ⟨fun _ => ⟨Or.inl rfl, hK⟩, fun q => absurd q (lt_out (n := 6) rfl)⟩
theorem p_areToldApart {K : zQ} {I : zI} {L : zJ} {P : zP} {T : aT} {t s : Nat} (hs : s < 64) (hT : CT I t T) (h1 : tla T s → K [.inl 1] (I, L, P)) (h0 : ¬ tla T s → K [.inl 0] (I, L, P)) : mX9_areToldApart K [.inr (.inr (9, t)), .inl (nI s)] (I, L, P) := by
  have h6 := hT.h6
  show bX9_areToldApart_2 K [some (.inr (.inr (9, t))), some (.inl (nI s)), some (.inl 0), none] [] (I, L, P)
  refine zinv (T.1 0) (fun i Z M => ∃ z3 : Option zV, Z = [some (.inr (.inr (9, t))), some (.inl (nI s)), some (.inl (nI i)), z3] ∧ M = (I, L, P) ∧ ∀ b, b < i → ∀ a, a < T.1 0 → b < a → unl T s b a 6 = true) ?_ ?_ ⟨none, rfl, rfl, fun b hb => by omega⟩
  · rintro i Z M hi ⟨z3, rfl, rfl, hu⟩ self hself
    dsimp only [x_int, x_lng, x_ild, x_lld, x_ald, x_ist, x_ast, x_lst, x_inc, x_ii, x_id, x_i, x_ll, x_ld, x_l, x_cmp, x_i2l, x_l2i, x_if, x_ic, x_dup, x_pop, x_dup2, x_gI, x_gL, x_gR, x_g1, x_g0, x_gP, x_pI, x_pZ, x_pL, x_pP, x_al, x_as, x_all, x_asl, x_alr, x_len, x_cpy, x_m2, x_m1, x_m2l, x_m1l, x_call, x_cv, x_ri, x_rz, x_rl, x_rv, zg, zset, zbef, zlong, zcat, cond_true, cond_false, List.take, List.drop, rv1, rv2, rv3, rv4, rv5, rv6, rv7, sm0, sm1, bl0, bl1, bl2, bl3, bl4, bl5, bl6, bl7, bl8, List.nil_append, List.cons_append, List.length_cons, List.length_nil, Nat.reduceBEq, Nat.reduceAdd, Nat.reduceSub, ta, tb, tn0, tn1, tn2, tn3, tn4, tn5, tn6, tn7, tn8, tn9, tn10, tn11, tn12]
    refine ⟨fun q => absurd q (lt_go hT.2.1.1 (by omega) hi), fun _ => ?_⟩
    rw [n_succ i]
    refine zinv (T.1 0 - (i + 1)) (fun j Z M => Z = [some (.inr (.inr (9, t))), some (.inl (nI s)), some (.inl (nI i)), some (.inl (nI (i + 1 + j)))] ∧ M = (I, L, P) ∧ ∀ a, a < i + 1 + j → i < a → unl T s i a 6 = true) ?_ ?_ ⟨rfl, rfl, fun a h1 h2 => by omega⟩
    · rintro j Z M hj ⟨rfl, rfl, hu2⟩ self2 hself2
      dsimp only [x_int, x_lng, x_ild, x_lld, x_ald, x_ist, x_ast, x_lst, x_inc, x_ii, x_id, x_i, x_ll, x_ld, x_l, x_cmp, x_i2l, x_l2i, x_if, x_ic, x_dup, x_pop, x_dup2, x_gI, x_gL, x_gR, x_g1, x_g0, x_gP, x_pI, x_pZ, x_pL, x_pP, x_al, x_as, x_all, x_asl, x_alr, x_len, x_cpy, x_m2, x_m1, x_m2l, x_m1l, x_call, x_cv, x_ri, x_rz, x_rl, x_rv, zg, zset, zbef, zlong, zcat, cond_true, cond_false, List.take, List.drop, rv1, rv2, rv3, rv4, rv5, rv6, rv7, sm0, sm1, bl0, bl1, bl2, bl3, bl4, bl5, bl6, bl7, bl8, List.nil_append, List.cons_append, List.length_cons, List.length_nil, Nat.reduceBEq, Nat.reduceAdd, Nat.reduceSub, ta, tb, tn0, tn1, tn2, tn3, tn4, tn5, tn6, tn7, tn8, tn9, tn10, tn11, tn12, zl_43]
      rw [n_cl (n := i) (by omega), n_cl (n := i + 1 + j) (by omega)]
      refine ⟨fun q => absurd q (lt_go hT.2.1.1 (by omega) (by omega)), fun _ => ⟨n_zin (by omega) (by decide), n_zin (by omega) (by decide), p_isUnlike hs (hT.hand hi).2.2.2 (hT.hand (i := i + 1 + j) (by omega)).2.2.2 ?_⟩⟩
      dsimp only [x_int, x_lng, x_ild, x_lld, x_ald, x_ist, x_ast, x_lst, x_inc, x_ii, x_id, x_i, x_ll, x_ld, x_l, x_cmp, x_i2l, x_l2i, x_if, x_ic, x_dup, x_pop, x_dup2, x_gI, x_gL, x_gR, x_g1, x_g0, x_gP, x_pI, x_pZ, x_pL, x_pP, x_al, x_as, x_all, x_asl, x_alr, x_len, x_cpy, x_m2, x_m1, x_m2l, x_m1l, x_call, x_cv, x_ri, x_rz, x_rl, x_rv, zg, zset, zbef, zlong, zcat, cond_true, cond_false, List.take, List.drop, rv1, rv2, rv3, rv4, rv5, rv6, rv7, sm0, sm1, bl0, bl1, bl2, bl3, bl4, bl5, bl6, bl7, bl8, List.nil_append, List.cons_append, List.length_cons, List.length_nil, Nat.reduceBEq, Nat.reduceAdd, Nat.reduceSub, ta, tb, tn0, tn1, tn2, tn3, tn4, tn5, tn6, tn7, tn8, tn9, tn10, tn11, tn12]
      rw [n_succ]
      by_cases e : unl T s i (i + 1 + j) 6 = true
      · rw [if_pos e]
        refine ⟨fun z => absurd z (by decide), fun _ => hself2 _ _ ⟨rfl, rfl, fun a q1 q2 => ?_⟩⟩
        by_cases z : a = i + 1 + j
        · subst z; exact e
        · exact hu2 a (by omega) q2
      · rw [if_neg e]
        exact ⟨fun _ => ⟨Or.inl rfl, h0 (fun z => e (z (i + 1 + j) (by omega) i (by omega)))⟩, fun z => absurd rfl z⟩
    · rintro Z M ⟨rfl, rfl, hu2⟩ self2
      rw [show i + 1 + (T.1 0 - (i + 1)) = T.1 0 by omega] at *
      dsimp only [x_int, x_lng, x_ild, x_lld, x_ald, x_ist, x_ast, x_lst, x_inc, x_ii, x_id, x_i, x_ll, x_ld, x_l, x_cmp, x_i2l, x_l2i, x_if, x_ic, x_dup, x_pop, x_dup2, x_gI, x_gL, x_gR, x_g1, x_g0, x_gP, x_pI, x_pZ, x_pL, x_pP, x_al, x_as, x_all, x_asl, x_alr, x_len, x_cpy, x_m2, x_m1, x_m2l, x_m1l, x_call, x_cv, x_ri, x_rz, x_rl, x_rv, zg, zset, zbef, zlong, zcat, cond_true, cond_false, List.take, List.drop, rv1, rv2, rv3, rv4, rv5, rv6, rv7, sm0, sm1, bl0, bl1, bl2, bl3, bl4, bl5, bl6, bl7, bl8, List.nil_append, List.cons_append, List.length_cons, List.length_nil, Nat.reduceBEq, Nat.reduceAdd, Nat.reduceSub, ta, tb, tn0, tn1, tn2, tn3, tn4, tn5, tn6, tn7, tn8, tn9, tn10, tn11, tn12]
      rw [n_succ i]
      refine ⟨fun _ => hself _ _ ⟨_, rfl, rfl, fun b hb a ha q => ?_⟩, fun q => absurd q (lt_out hT.2.1.1)⟩
      by_cases z : b = i
      · subst z; exact hu2 a ha q
      · exact hu b (by omega) a ha q
  · rintro Z M ⟨z3, rfl, rfl, hu⟩ self
    dsimp only [x_int, x_lng, x_ild, x_lld, x_ald, x_ist, x_ast, x_lst, x_inc, x_ii, x_id, x_i, x_ll, x_ld, x_l, x_cmp, x_i2l, x_l2i, x_if, x_ic, x_dup, x_pop, x_dup2, x_gI, x_gL, x_gR, x_g1, x_g0, x_gP, x_pI, x_pZ, x_pL, x_pP, x_al, x_as, x_all, x_asl, x_alr, x_len, x_cpy, x_m2, x_m1, x_m2l, x_m1l, x_call, x_cv, x_ri, x_rz, x_rl, x_rv, zg, zset, zbef, zlong, zcat, cond_true, cond_false, List.take, List.drop, rv1, rv2, rv3, rv4, rv5, rv6, rv7, sm0, sm1, bl0, bl1, bl2, bl3, bl4, bl5, bl6, bl7, bl8, List.nil_append, List.cons_append, List.length_cons, List.length_nil, Nat.reduceBEq, Nat.reduceAdd, Nat.reduceSub, ta, tb, tn0, tn1, tn2, tn3, tn4, tn5, tn6, tn7, tn8, tn9, tn10, tn11, tn12]
    exact ⟨fun _ => ⟨Or.inr rfl, h1 (fun a ha b hb => hu b (by omega) a ha hb)⟩, fun q => absurd q (lt_out hT.2.1.1)⟩
def fewr (o : Option Nat) (s : Nat) : Bool := match o with
  | none => true
  | some b => decide (pop6 s < pop6 b)
def plc (T : aT) : Nat → Option Nat
  | 0 => none
  | s + 1 => if fewr (plc T s) s = true then (if tla T s then some s else plc T s) else plc T s
theorem plc_s (T : aT) (s : Nat) : plc T (s + 1) = if fewr (plc T s) s = true then (if tla T s then some s else plc T s) else plc T s := rfl
theorem plc_lt {T : aT} : ∀ {s b : Nat}, plc T s = some b → b < s := by
  intro s
  induction s with
  | zero => intro b e; cases e
  | succ s ih =>
    intro b e
    rw [plc_s] at e
    split at e
    · split at e
      · cases e; omega
      · have := ih e; omega
    · have := ih e; omega
def v_places (A : aA) : Int32 := wbI (plc A.T 64)
theorem pop6_6 (s : Nat) : pop6 s ≤ 6 := zcount_le _ 6
theorem c_places {K : zQ} {I : zI} {L : zJ} {P : zP} {A : aA} (hC : RC A I P) (hK : K [.inl (v_places A)] (I, L, P)) : mX11_places K [kbR] (I, L, P) := by
  obtain ⟨t, hT, h11, h8, hS⟩ := hC.b
  show bX11_places_5 K [some kbR, some (.inl (-2)), some (.inl 0), none] [] (I, L, P)
  refine zinv 64 (fun s Z M => ∃ z3 : Option zV, Z = [some kbR, some (.inl (wbI (plc A.T s))), some (.inl (nI s)), z3] ∧ M = (I, L, P)) ?_ ?_ ⟨none, rfl, rfl⟩
  · rintro s Z M hs ⟨z3, rfl, rfl⟩ self hself
    have st := plc_s A.T s
    have go : fewr (plc A.T s) s = true → bX11_places_31 K self [some kbR, some (.inl (wbI (plc A.T s))), some (.inl (nI s)), z3] [.inl 1] (I, L, P) := fun e => by
      rw [if_pos e] at st
      dsimp only [bX11_places_31, bX11_places_49, x_int, x_lng, x_ild, x_lld, x_ald, x_ist, x_ast, x_lst, x_inc, x_ii, x_id, x_i, x_ll, x_ld, x_l, x_cmp, x_i2l, x_l2i, x_if, x_ic, x_dup, x_pop, x_dup2, x_gI, x_gL, x_gR, x_g1, x_g0, x_gP, x_pI, x_pZ, x_pL, x_pP, x_al, x_as, x_all, x_asl, x_alr, x_len, x_cpy, x_m2, x_m1, x_m2l, x_m1l, x_call, x_cv, x_ri, x_rz, x_rl, x_rv, zg, zset, zbef, zlong, zcat, cond_true, cond_false, List.take, List.drop, rv1, rv2, rv3, rv4, rv5, rv6, rv7, sm0, sm1, bl0, bl1, bl2, bl3, bl4, bl5, bl6, bl7, bl8, List.nil_append, List.cons_append, List.length_cons, List.length_nil, Nat.reduceBEq, Nat.reduceAdd, Nat.reduceSub, ta, tb, tn0, tn1, tn2, tn3, tn4, tn5, tn6, tn7, tn8, tn9, tn10, tn11, tn12]
      rw [h11]
      refine ⟨fun z => absurd z (by decide), fun _ => ⟨hT.1, p_areToldApart hs hT (fun ok => ?_) (fun no => ?_)⟩⟩
      · dsimp only [bX11_places_49, x_int, x_lng, x_ild, x_lld, x_ald, x_ist, x_ast, x_lst, x_inc, x_ii, x_id, x_i, x_ll, x_ld, x_l, x_cmp, x_i2l, x_l2i, x_if, x_ic, x_dup, x_pop, x_dup2, x_gI, x_gL, x_gR, x_g1, x_g0, x_gP, x_pI, x_pZ, x_pL, x_pP, x_al, x_as, x_all, x_asl, x_alr, x_len, x_cpy, x_m2, x_m1, x_m2l, x_m1l, x_call, x_cv, x_ri, x_rz, x_rl, x_rv, zg, zset, zbef, zlong, zcat, cond_true, cond_false, List.take, List.drop, rv1, rv2, rv3, rv4, rv5, rv6, rv7, sm0, sm1, bl0, bl1, bl2, bl3, bl4, bl5, bl6, bl7, bl8, List.nil_append, List.cons_append, List.length_cons, List.length_nil, Nat.reduceBEq, Nat.reduceAdd, Nat.reduceSub, ta, tb, tn0, tn1, tn2, tn3, tn4, tn5, tn6, tn7, tn8, tn9, tn10, tn11, tn12]
        rw [n_succ s]
        rw [if_pos ok] at st
        refine ⟨fun z => absurd z (by decide), fun _ => hself _ _ ⟨some (.inl 1), ?_, rfl⟩⟩
        rw [st]; rfl
      · dsimp only [bX11_places_49, x_int, x_lng, x_ild, x_lld, x_ald, x_ist, x_ast, x_lst, x_inc, x_ii, x_id, x_i, x_ll, x_ld, x_l, x_cmp, x_i2l, x_l2i, x_if, x_ic, x_dup, x_pop, x_dup2, x_gI, x_gL, x_gR, x_g1, x_g0, x_gP, x_pI, x_pZ, x_pL, x_pP, x_al, x_as, x_all, x_asl, x_alr, x_len, x_cpy, x_m2, x_m1, x_m2l, x_m1l, x_call, x_cv, x_ri, x_rz, x_rl, x_rv, zg, zset, zbef, zlong, zcat, cond_true, cond_false, List.take, List.drop, rv1, rv2, rv3, rv4, rv5, rv6, rv7, sm0, sm1, bl0, bl1, bl2, bl3, bl4, bl5, bl6, bl7, bl8, List.nil_append, List.cons_append, List.length_cons, List.length_nil, Nat.reduceBEq, Nat.reduceAdd, Nat.reduceSub, ta, tb, tn0, tn1, tn2, tn3, tn4, tn5, tn6, tn7, tn8, tn9, tn10, tn11, tn12]
        rw [n_succ s]
        rw [if_neg no] at st
        refine ⟨fun _ => hself _ _ ⟨some (.inl 1), ?_, rfl⟩, fun z => absurd rfl z⟩
        rw [st]
    dsimp only [x_int, x_lng, x_ild, x_lld, x_ald, x_ist, x_ast, x_lst, x_inc, x_ii, x_id, x_i, x_ll, x_ld, x_l, x_cmp, x_i2l, x_l2i, x_if, x_ic, x_dup, x_pop, x_dup2, x_gI, x_gL, x_gR, x_g1, x_g0, x_gP, x_pI, x_pZ, x_pL, x_pP, x_al, x_as, x_all, x_asl, x_alr, x_len, x_cpy, x_m2, x_m1, x_m2l, x_m1l, x_call, x_cv, x_ri, x_rz, x_rl, x_rv, zg, zset, zbef, zlong, zcat, cond_true, cond_false, List.take, List.drop, rv1, rv2, rv3, rv4, rv5, rv6, rv7, sm0, sm1, bl0, bl1, bl2, bl3, bl4, bl5, bl6, bl7, bl8, List.nil_append, List.cons_append, List.length_cons, List.length_nil, Nat.reduceBEq, Nat.reduceAdd, Nat.reduceSub, ta, tb, tn0, tn1, tn2, tn3, tn4, tn5, tn6, tn7, tn8, tn9, tn10, tn11, tn12, bX11_places_26]
    refine ⟨fun q => absurd q (lt_go (n := 64) rfl (by omega) hs), fun _ => ⟨fun q => go ?_, fun q => p_bitCount ?_⟩⟩
    · cases e : plc A.T s with
      | none => rfl
      | some b =>
        have := plc_lt e
        rw [e] at q
        have q : nI b < nI 0 := q
        rw [n_lt (by omega) (by omega)] at q
        omega
    · dsimp only [x_int, x_lng, x_ild, x_lld, x_ald, x_ist, x_ast, x_lst, x_inc, x_ii, x_id, x_i, x_ll, x_ld, x_l, x_cmp, x_i2l, x_l2i, x_if, x_ic, x_dup, x_pop, x_dup2, x_gI, x_gL, x_gR, x_g1, x_g0, x_gP, x_pI, x_pZ, x_pL, x_pP, x_al, x_as, x_all, x_asl, x_alr, x_len, x_cpy, x_m2, x_m1, x_m2l, x_m1l, x_call, x_cv, x_ri, x_rz, x_rl, x_rv, zg, zset, zbef, zlong, zcat, cond_true, cond_false, List.take, List.drop, rv1, rv2, rv3, rv4, rv5, rv6, rv7, sm0, sm1, bl0, bl1, bl2, bl3, bl4, bl5, bl6, bl7, bl8, List.nil_append, List.cons_append, List.length_cons, List.length_nil, Nat.reduceBEq, Nat.reduceAdd, Nat.reduceSub, ta, tb, tn0, tn1, tn2, tn3, tn4, tn5, tn6, tn7, tn8, tn9, tn10, tn11, tn12]
      refine p_bitCount ?_
      cases e : plc A.T s with
      | none => rw [e] at q; exact absurd (show (-2 : Int32) < 0 by decide) q
      | some b =>
        have hb := plc_lt e
        rw [e] at go st
        dsimp only [wbI]
        rw [pop6_b s hs, pop6_b b (by omega)]
        have a1 := pop6_6 s
        have a2 := pop6_6 b
        dsimp only [x_int, x_lng, x_ild, x_lld, x_ald, x_ist, x_ast, x_lst, x_inc, x_ii, x_id, x_i, x_ll, x_ld, x_l, x_cmp, x_i2l, x_l2i, x_if, x_ic, x_dup, x_pop, x_dup2, x_gI, x_gL, x_gR, x_g1, x_g0, x_gP, x_pI, x_pZ, x_pL, x_pP, x_al, x_as, x_all, x_asl, x_alr, x_len, x_cpy, x_m2, x_m1, x_m2l, x_m1l, x_call, x_cv, x_ri, x_rz, x_rl, x_rv, zg, zset, zbef, zlong, zcat, cond_true, cond_false, List.take, List.drop, rv1, rv2, rv3, rv4, rv5, rv6, rv7, sm0, sm1, bl0, bl1, bl2, bl3, bl4, bl5, bl6, bl7, bl8, List.nil_append, List.cons_append, List.length_cons, List.length_nil, Nat.reduceBEq, Nat.reduceAdd, Nat.reduceSub, ta, tb, tn0, tn1, tn2, tn3, tn4, tn5, tn6, tn7, tn8, tn9, tn10, tn11, tn12, bX11_places_26]
        refine ⟨fun c => ?_, fun c => go ?_⟩
        · have c : nI (pop6 b) ≤ nI (pop6 s) := c
          rw [n_le (by omega) (by omega)] at c
          rw [if_neg (by show ¬ decide (pop6 s < pop6 b) = true; rw [decide_eq_true_eq]; omega)] at st
          dsimp only [bX11_places_31, bX11_places_49, x_int, x_lng, x_ild, x_lld, x_ald, x_ist, x_ast, x_lst, x_inc, x_ii, x_id, x_i, x_ll, x_ld, x_l, x_cmp, x_i2l, x_l2i, x_if, x_ic, x_dup, x_pop, x_dup2, x_gI, x_gL, x_gR, x_g1, x_g0, x_gP, x_pI, x_pZ, x_pL, x_pP, x_al, x_as, x_all, x_asl, x_alr, x_len, x_cpy, x_m2, x_m1, x_m2l, x_m1l, x_call, x_cv, x_ri, x_rz, x_rl, x_rv, zg, zset, zbef, zlong, zcat, cond_true, cond_false, List.take, List.drop, rv1, rv2, rv3, rv4, rv5, rv6, rv7, sm0, sm1, bl0, bl1, bl2, bl3, bl4, bl5, bl6, bl7, bl8, List.nil_append, List.cons_append, List.length_cons, List.length_nil, Nat.reduceBEq, Nat.reduceAdd, Nat.reduceSub, ta, tb, tn0, tn1, tn2, tn3, tn4, tn5, tn6, tn7, tn8, tn9, tn10, tn11, tn12]
          rw [n_succ s]
          refine ⟨fun _ => hself _ _ ⟨some (.inl 0), ?_, rfl⟩, fun z => absurd rfl z⟩
          rw [st]; rfl
        · have c : ¬ nI (pop6 b) ≤ nI (pop6 s) := c
          rw [n_le (by omega) (by omega)] at c
          show decide (pop6 s < pop6 b) = true
          rw [decide_eq_true_eq]; omega
  · rintro Z M ⟨z3, rfl, rfl⟩ self
    dsimp only [x_int, x_lng, x_ild, x_lld, x_ald, x_ist, x_ast, x_lst, x_inc, x_ii, x_id, x_i, x_ll, x_ld, x_l, x_cmp, x_i2l, x_l2i, x_if, x_ic, x_dup, x_pop, x_dup2, x_gI, x_gL, x_gR, x_g1, x_g0, x_gP, x_pI, x_pZ, x_pL, x_pP, x_al, x_as, x_all, x_asl, x_alr, x_len, x_cpy, x_m2, x_m1, x_m2l, x_m1l, x_call, x_cv, x_ri, x_rz, x_rl, x_rv, zg, zset, zbef, zlong, zcat, cond_true, cond_false, List.take, List.drop, rv1, rv2, rv3, rv4, rv5, rv6, rv7, sm0, sm1, bl0, bl1, bl2, bl3, bl4, bl5, bl6, bl7, bl8, List.nil_append, List.cons_append, List.length_cons, List.length_nil, Nat.reduceBEq, Nat.reduceAdd, Nat.reduceSub, ta, tb, tn0, tn1, tn2, tn3, tn4, tn5, tn6, tn7, tn8, tn9, tn10, tn11, tn12]
    exact ⟨fun _ => hK, fun q => absurd q (lt_out (n := 64) rfl)⟩
theorem p_isOf {K : zQ} {M : zM} {s k : Nat} (hs : s < 64) (hk : k < 6) (hK : K [.inl (if s.testBit k = true then 1 else 0)] M) : mX12_isOf K [.inl (nI s), .inl (nI k)] M := by
  show bX12_isOf_0 K [some (.inl (nI s)), some (.inl (nI k))] [] M
  unfold bX12_isOf_0
  dsimp only [x_int, x_lng, x_ild, x_lld, x_ald, x_ist, x_ast, x_lst, x_inc, x_ii, x_id, x_i, x_ll, x_ld, x_l, x_cmp, x_i2l, x_l2i, x_if, x_ic, x_dup, x_pop, x_dup2, x_gI, x_gL, x_gR, x_g1, x_g0, x_gP, x_pI, x_pZ, x_pL, x_pP, x_al, x_as, x_all, x_asl, x_alr, x_len, x_cpy, x_m2, x_m1, x_m2l, x_m1l, x_call, x_cv, x_ri, x_rz, x_rl, x_rv, zg, zset, zbef, zlong, zcat, cond_true, cond_false, List.take, List.drop, rv1, rv2, rv3, rv4, rv5, rv6, rv7, sm0, sm1, bl0, bl1, bl2, bl3, bl4, bl5, bl6, bl7, bl8, List.nil_append, List.cons_append, List.length_cons, List.length_nil, Nat.reduceBEq, Nat.reduceAdd, Nat.reduceSub, ta, tb, tn0, tn1, tn2, tn3, tn4, tn5, tn6, tn7, tn8, tn9, tn10, tn11, tn12, bX12_isOf_14]
  rw [bitK k hk s hs]
  by_cases e : s.testBit k = true
  · rw [if_pos e] at hK ⊢
    exact ⟨fun _ => ⟨Or.inr rfl, hK⟩, fun z => absurd rfl z⟩
  · rw [if_neg e] at hK ⊢
    exact ⟨fun z => absurd z (by decide), fun _ => ⟨Or.inl rfl, hK⟩⟩
theorem p_manyOf12 {K : zQ} {M : zM} {s : Nat} (hs : s < 64) (hK : K [.inl (nI (pop6 s))] M) : mX12_manyOf K [.inl (nI s)] M := by
  show bX12_manyOf_4 K [some (.inl (nI s)), some (.inl 0), some (.inl 0)] [] M
  refine zfor 6 (fun i => [some (.inl (nI s)), some (.inl (nI (zcount (fun i => s.testBit i) i))), some (.inl (nI i))]) (fun _ => M) (fun i hi self hs2 => ?_) (fun self => ?_)
  · dsimp only [x_int, x_lng, x_ild, x_lld, x_ald, x_ist, x_ast, x_lst, x_inc, x_ii, x_id, x_i, x_ll, x_ld, x_l, x_cmp, x_i2l, x_l2i, x_if, x_ic, x_dup, x_pop, x_dup2, x_gI, x_gL, x_gR, x_g1, x_g0, x_gP, x_pI, x_pZ, x_pL, x_pP, x_al, x_as, x_all, x_asl, x_alr, x_len, x_cpy, x_m2, x_m1, x_m2l, x_m1l, x_call, x_cv, x_ri, x_rz, x_rl, x_rv, zg, zset, zbef, zlong, zcat, cond_true, cond_false, List.take, List.drop, rv1, rv2, rv3, rv4, rv5, rv6, rv7, sm0, sm1, bl0, bl1, bl2, bl3, bl4, bl5, bl6, bl7, bl8, List.nil_append, List.cons_append, List.length_cons, List.length_nil, Nat.reduceBEq, Nat.reduceAdd, Nat.reduceSub, ta, tb, tn0, tn1, tn2, tn3, tn4, tn5, tn6, tn7, tn8, tn9, tn10, tn11, tn12]
    rw [bitK i hi s hs, n_succ i]
    refine ⟨fun q => absurd q (lt_go (n := 6) rfl (by omega) hi), fun _ => ?_⟩
    by_cases e : s.testBit i = true
    · rw [if_pos e, zc_yes (p := fun i => s.testBit i) (i := i) e]; exact hs2
    · have e : s.testBit i = false := by cases z : s.testBit i with
        | false => rfl
        | true => exact absurd z e
      rw [if_neg (by rw [e]; decide), zc_no (p := fun i => s.testBit i) (i := i) e]; exact hs2
  · dsimp only [x_int, x_lng, x_ild, x_lld, x_ald, x_ist, x_ast, x_lst, x_inc, x_ii, x_id, x_i, x_ll, x_ld, x_l, x_cmp, x_i2l, x_l2i, x_if, x_ic, x_dup, x_pop, x_dup2, x_gI, x_gL, x_gR, x_g1, x_g0, x_gP, x_pI, x_pZ, x_pL, x_pP, x_al, x_as, x_all, x_asl, x_alr, x_len, x_cpy, x_m2, x_m1, x_m2l, x_m1l, x_call, x_cv, x_ri, x_rz, x_rl, x_rv, zg, zset, zbef, zlong, zcat, cond_true, cond_false, List.take, List.drop, rv1, rv2, rv3, rv4, rv5, rv6, rv7, sm0, sm1, bl0, bl1, bl2, bl3, bl4, bl5, bl6, bl7, bl8, List.nil_append, List.cons_append, List.length_cons, List.length_nil, Nat.reduceBEq, Nat.reduceAdd, Nat.reduceSub, ta, tb, tn0, tn1, tn2, tn3, tn4, tn5, tn6, tn7, tn8, tn9, tn10, tn11, tn12]
    exact ⟨fun _ => hK, fun q => absurd q (lt_out (n := 6) rfl)⟩
theorem p_tellsAll {K : zQ} {I : zI} {L : zJ} {P : zP} {T : aT} {s : Nat} (hs : s < 64) (hT : RT I T) (h1 : tla T s → K [.inl 1] (I, L, P)) (h0 : ¬ tla T s → K [.inl 0] (I, L, P)) : mX12_tellsAll K [refR, .inl (nI s)] (I, L, P) := by
  have h6 := hT.h6
  show bX12_tellsAll_2 K [some refR, some (.inl (nI s)), some (.inl 0), none, none, none] [] (I, L, P)
  refine zinv (T.1 0) (fun i Z M => ∃ z3 z4 z5 : Option zV, Z = [some refR, some (.inl (nI s)), some (.inl (nI i)), z3, z4, z5] ∧ M = (I, L, P) ∧ ∀ a, a < i → ∀ b, b < a → unl T s b a 6 = true) ?_ ?_ ⟨none, none, none, rfl, rfl, fun b hb => by omega⟩
  · rintro i Z M hi ⟨z3, z4, z5, rfl, rfl, hu⟩ self hself
    dsimp only [x_int, x_lng, x_ild, x_lld, x_ald, x_ist, x_ast, x_lst, x_inc, x_ii, x_id, x_i, x_ll, x_ld, x_l, x_cmp, x_i2l, x_l2i, x_if, x_ic, x_dup, x_pop, x_dup2, x_gI, x_gL, x_gR, x_g1, x_g0, x_gP, x_pI, x_pZ, x_pL, x_pP, x_al, x_as, x_all, x_asl, x_alr, x_len, x_cpy, x_m2, x_m1, x_m2l, x_m1l, x_call, x_cv, x_ri, x_rz, x_rl, x_rv, zg, zset, zbef, zlong, zcat, cond_true, cond_false, List.take, List.drop, rv1, rv2, rv3, rv4, rv5, rv6, rv7, sm0, sm1, bl0, bl1, bl2, bl3, bl4, bl5, bl6, bl7, bl8, List.nil_append, List.cons_append, List.length_cons, List.length_nil, Nat.reduceBEq, Nat.reduceAdd, Nat.reduceSub, ta, tb, tn0, tn1, tn2, tn3, tn4, tn5, tn6, tn7, tn8, tn9, tn10, tn11, tn12]
    refine ⟨fun q => absurd q (lt_go hT.1.1 (by omega) hi), fun _ => ?_⟩
    refine zinv i (fun j Z M => ∃ z4 z5 : Option zV, Z = [some refR, some (.inl (nI s)), some (.inl (nI i)), some (.inl (nI j)), z4, z5] ∧ M = (I, L, P) ∧ ∀ b, b < j → unl T s b i 6 = true) ?_ ?_ ⟨z4, z5, rfl, rfl, fun b hb => by omega⟩
    · rintro j Z M hj ⟨z4, z5, rfl, rfl, hu2⟩ self2 hself2
      dsimp only [x_int, x_lng, x_ild, x_lld, x_ald, x_ist, x_ast, x_lst, x_inc, x_ii, x_id, x_i, x_ll, x_ld, x_l, x_cmp, x_i2l, x_l2i, x_if, x_ic, x_dup, x_pop, x_dup2, x_gI, x_gL, x_gR, x_g1, x_g0, x_gP, x_pI, x_pZ, x_pL, x_pP, x_al, x_as, x_all, x_asl, x_alr, x_len, x_cpy, x_m2, x_m1, x_m2l, x_m1l, x_call, x_cv, x_ri, x_rz, x_rl, x_rv, zg, zset, zbef, zlong, zcat, cond_true, cond_false, List.take, List.drop, rv1, rv2, rv3, rv4, rv5, rv6, rv7, sm0, sm1, bl0, bl1, bl2, bl3, bl4, bl5, bl6, bl7, bl8, List.nil_append, List.cons_append, List.length_cons, List.length_nil, Nat.reduceBEq, Nat.reduceAdd, Nat.reduceSub, ta, tb, tn0, tn1, tn2, tn3, tn4, tn5, tn6, tn7, tn8, tn9, tn10, tn11, tn12]
      refine ⟨fun q => absurd q (lt_go (n := i) rfl (by omega) hj), fun _ => ?_⟩
      refine zinv 6 (fun k Z M => Z = [some refR, some (.inl (nI s)), some (.inl (nI i)), some (.inl (nI j)), some (.inl (if unl T s i j k = true then 0 else 1)), some (.inl (nI k))] ∧ M = (I, L, P)) ?_ ?_ ⟨rfl, rfl⟩
      · rintro k Z M hk ⟨rfl, rfl⟩ self3 hself3
        have st := unl_s T s i j k
        have fin : ∀ v : Int32, v = (if unl T s i j (k + 1) = true then 0 else 1) → self3 [some refR, some (.inl (nI s)), some (.inl (nI i)), some (.inl (nI j)), some (.inl v), some (.inl (nI (k + 1)))] [] (I, L, P) := fun v hv => hself3 _ _ ⟨by rw [hv], rfl⟩
        dsimp only [x_int, x_lng, x_ild, x_lld, x_ald, x_ist, x_ast, x_lst, x_inc, x_ii, x_id, x_i, x_ll, x_ld, x_l, x_cmp, x_i2l, x_l2i, x_if, x_ic, x_dup, x_pop, x_dup2, x_gI, x_gL, x_gR, x_g1, x_g0, x_gP, x_pI, x_pZ, x_pL, x_pP, x_al, x_as, x_all, x_asl, x_alr, x_len, x_cpy, x_m2, x_m1, x_m2l, x_m1l, x_call, x_cv, x_ri, x_rz, x_rl, x_rv, zg, zset, zbef, zlong, zcat, cond_true, cond_false, List.take, List.drop, rv1, rv2, rv3, rv4, rv5, rv6, rv7, sm0, sm1, bl0, bl1, bl2, bl3, bl4, bl5, bl6, bl7, bl8, List.nil_append, List.cons_append, List.length_cons, List.length_nil, Nat.reduceBEq, Nat.reduceAdd, Nat.reduceSub, ta, tb, tn0, tn1, tn2, tn3, tn4, tn5, tn6, tn7, tn8, tn9, tn10, tn11, tn12, bX12_tellsAll_75, bX12_tellsAll_71, bX12_tellsAll_76]
        rw [n_succ k]
        by_cases e : unl T s i j k = true
        · rw [if_pos e]
          refine ⟨fun q => absurd q (lt_go (n := 6) rfl (by omega) hk), fun _ => ⟨fun _ => fin 0 ?_, fun z => absurd rfl z⟩⟩
          rw [st, e]; rfl
        · have e' : unl T s i j k = false := by cases z : unl T s i j k with
            | false => rfl
            | true => exact absurd z e
          rw [e', Bool.false_or] at st
          rw [if_neg e]
          refine ⟨fun q => absurd q (lt_go (n := 6) rfl (by omega) hk), fun _ => ⟨fun z => absurd z (by decide), fun _ => p_isOf hs hk ?_⟩⟩
          dsimp only [x_int, x_lng, x_ild, x_lld, x_ald, x_ist, x_ast, x_lst, x_inc, x_ii, x_id, x_i, x_ll, x_ld, x_l, x_cmp, x_i2l, x_l2i, x_if, x_ic, x_dup, x_pop, x_dup2, x_gI, x_gL, x_gR, x_g1, x_g0, x_gP, x_pI, x_pZ, x_pL, x_pP, x_al, x_as, x_all, x_asl, x_alr, x_len, x_cpy, x_m2, x_m1, x_m2l, x_m1l, x_call, x_cv, x_ri, x_rz, x_rl, x_rv, zg, zset, zbef, zlong, zcat, cond_true, cond_false, List.take, List.drop, rv1, rv2, rv3, rv4, rv5, rv6, rv7, sm0, sm1, bl0, bl1, bl2, bl3, bl4, bl5, bl6, bl7, bl8, List.nil_append, List.cons_append, List.length_cons, List.length_nil, Nat.reduceBEq, Nat.reduceAdd, Nat.reduceSub, ta, tb, tn0, tn1, tn2, tn3, tn4, tn5, tn6, tn7, tn8, tn9, tn10, tn11, tn12, zk_58, zl_58, bX12_tellsAll_75, bX12_tellsAll_71, bX12_tellsAll_76]
          rw [n6, n6, n_cl (n := 6 * i + k) (by omega), n_cl (n := 6 * j + k) (by omega), (hT.hand hi).2.2.2 k hk, (hT.hand (x := j) (by omega)).2.2.2 k hk]
          try rw [n_succ k]
          by_cases b : s.testBit k = true
          · rw [if_pos b]
            rw [b, Bool.true_and] at st
            refine ⟨fun z => absurd z (by decide), fun _ => ⟨n_zin (by omega) (by decide), n_zin (by omega) (by decide), fun c => fin 1 ?_, fun c => fin 0 ?_⟩⟩
            · rw [st, decide_eq_false (fun z => z c)]; rfl
            · rw [st, decide_eq_true c]; rfl
          · rw [if_neg b]
            refine ⟨fun _ => fin 1 ?_, fun z => absurd rfl z⟩
            have b' : s.testBit k = false := by cases z : s.testBit k with
              | false => rfl
              | true => exact absurd z b
            rw [st, b']; rfl
      · rintro Z M ⟨rfl, rfl⟩ self3
        dsimp only [x_int, x_lng, x_ild, x_lld, x_ald, x_ist, x_ast, x_lst, x_inc, x_ii, x_id, x_i, x_ll, x_ld, x_l, x_cmp, x_i2l, x_l2i, x_if, x_ic, x_dup, x_pop, x_dup2, x_gI, x_gL, x_gR, x_g1, x_g0, x_gP, x_pI, x_pZ, x_pL, x_pP, x_al, x_as, x_all, x_asl, x_alr, x_len, x_cpy, x_m2, x_m1, x_m2l, x_m1l, x_call, x_cv, x_ri, x_rz, x_rl, x_rv, zg, zset, zbef, zlong, zcat, cond_true, cond_false, List.take, List.drop, rv1, rv2, rv3, rv4, rv5, rv6, rv7, sm0, sm1, bl0, bl1, bl2, bl3, bl4, bl5, bl6, bl7, bl8, List.nil_append, List.cons_append, List.length_cons, List.length_nil, Nat.reduceBEq, Nat.reduceAdd, Nat.reduceSub, ta, tb, tn0, tn1, tn2, tn3, tn4, tn5, tn6, tn7, tn8, tn9, tn10, tn11, tn12]
        rw [n_succ j]
        refine ⟨fun _ => ?_, fun q => absurd q (lt_out (n := 6) rfl)⟩
        by_cases e : unl T s i j 6 = true
        · rw [if_pos e]
          refine ⟨fun _ => hself2 _ _ ⟨_, _, rfl, rfl, fun b hb => ?_⟩, fun z => absurd rfl z⟩
          by_cases z : b = j
          · subst z; rw [unl_c]; exact e
          · exact hu2 b (by omega)
        · rw [if_neg e]
          exact ⟨fun z => absurd z (by decide), fun _ => ⟨Or.inl rfl, h0 (fun z => e (by rw [unl_c]; exact z i hi j hj))⟩⟩
    · rintro Z M ⟨z4, z5, rfl, rfl, hu2⟩ self2
      dsimp only [x_int, x_lng, x_ild, x_lld, x_ald, x_ist, x_ast, x_lst, x_inc, x_ii, x_id, x_i, x_ll, x_ld, x_l, x_cmp, x_i2l, x_l2i, x_if, x_ic, x_dup, x_pop, x_dup2, x_gI, x_gL, x_gR, x_g1, x_g0, x_gP, x_pI, x_pZ, x_pL, x_pP, x_al, x_as, x_all, x_asl, x_alr, x_len, x_cpy, x_m2, x_m1, x_m2l, x_m1l, x_call, x_cv, x_ri, x_rz, x_rl, x_rv, zg, zset, zbef, zlong, zcat, cond_true, cond_false, List.take, List.drop, rv1, rv2, rv3, rv4, rv5, rv6, rv7, sm0, sm1, bl0, bl1, bl2, bl3, bl4, bl5, bl6, bl7, bl8, List.nil_append, List.cons_append, List.length_cons, List.length_nil, Nat.reduceBEq, Nat.reduceAdd, Nat.reduceSub, ta, tb, tn0, tn1, tn2, tn3, tn4, tn5, tn6, tn7, tn8, tn9, tn10, tn11, tn12]
      rw [n_succ i]
      refine ⟨fun _ => hself _ _ ⟨_, _, _, rfl, rfl, fun a ha b hb => ?_⟩, fun q => absurd q (lt_out (n := i) rfl)⟩
      by_cases z : a = i
      · subst z; exact hu2 b hb
      · exact hu a (by omega) b hb
  · rintro Z M ⟨z3, z4, z5, rfl, rfl, hu⟩ self
    dsimp only [x_int, x_lng, x_ild, x_lld, x_ald, x_ist, x_ast, x_lst, x_inc, x_ii, x_id, x_i, x_ll, x_ld, x_l, x_cmp, x_i2l, x_l2i, x_if, x_ic, x_dup, x_pop, x_dup2, x_gI, x_gL, x_gR, x_g1, x_g0, x_gP, x_pI, x_pZ, x_pL, x_pP, x_al, x_as, x_all, x_asl, x_alr, x_len, x_cpy, x_m2, x_m1, x_m2l, x_m1l, x_call, x_cv, x_ri, x_rz, x_rl, x_rv, zg, zset, zbef, zlong, zcat, cond_true, cond_false, List.take, List.drop, rv1, rv2, rv3, rv4, rv5, rv6, rv7, sm0, sm1, bl0, bl1, bl2, bl3, bl4, bl5, bl6, bl7, bl8, List.nil_append, List.cons_append, List.length_cons, List.length_nil, Nat.reduceBEq, Nat.reduceAdd, Nat.reduceSub, ta, tb, tn0, tn1, tn2, tn3, tn4, tn5, tn6, tn7, tn8, tn9, tn10, tn11, tn12]
    exact ⟨fun _ => ⟨Or.inr rfl, h1 hu⟩, fun q => absurd q (lt_out hT.1.1)⟩
theorem r_places {K : zQ} {I : zI} {L : zJ} {P : zP} {A : aA} (hR : RR A I L) (hK : ∀ (I' : zI), frR I I' → K [.inl (v_places A)] (I', L, P)) : mX12_places K [refR] (I, L, P) := by
  show bX12_places_0 K [some (.inr (.inr (12,0))), none, none] [] (I, L, P)
  unfold bX12_places_0
  obtain ⟨I1, e9, hR1, f1⟩ := r_thr P hR
  dsimp only [x_ald, x_int, x_pI, zg, Nat.reduceBEq, cond_true]
  rw [e9]
  have hT := hR1.1
  dsimp only [x_int, x_lng, x_ild, x_lld, x_ald, x_ist, x_ast, x_lst, x_inc, x_ii, x_id, x_i, x_ll, x_ld, x_l, x_cmp, x_i2l, x_l2i, x_if, x_ic, x_dup, x_pop, x_dup2, x_gI, x_gL, x_gR, x_g1, x_g0, x_gP, x_pI, x_pZ, x_pL, x_pP, x_al, x_as, x_all, x_asl, x_alr, x_len, x_cpy, x_m2, x_m1, x_m2l, x_m1l, x_call, x_cv, x_ri, x_rz, x_rl, x_rv, zg, zset, zbef, zlong, zcat, cond_true, cond_false, List.take, List.drop, rv1, rv2, rv3, rv4, rv5, rv6, rv7, sm0, sm1, bl0, bl1, bl2, bl3, bl4, bl5, bl6, bl7, bl8, List.nil_append, List.cons_append, List.length_cons, List.length_nil, Nat.reduceBEq, Nat.reduceAdd, Nat.reduceSub, ta, tb, tn0, tn1, tn2, tn3, tn4, tn5, tn6, tn7, tn8, tn9, tn10, tn11, tn12]
  refine zinv 64 (fun s Z M => Z = [some refR, some (.inl (wbI (plc A.T s))), some (.inl (nI s))] ∧ M = (I1, L, P)) ?_ ?_ ⟨rfl, rfl⟩
  · rintro s Z M hs ⟨rfl, rfl⟩ self hself
    have st := plc_s A.T s
    have go : fewr (plc A.T s) s = true → bX12_places_34 K self [some refR, some (.inl (wbI (plc A.T s))), some (.inl (nI s))] [] (I1, L, P) := fun e => by
      rw [if_pos e] at st
      dsimp only [bX12_places_34, bX12_places_44, x_int, x_lng, x_ild, x_lld, x_ald, x_ist, x_ast, x_lst, x_inc, x_ii, x_id, x_i, x_ll, x_ld, x_l, x_cmp, x_i2l, x_l2i, x_if, x_ic, x_dup, x_pop, x_dup2, x_gI, x_gL, x_gR, x_g1, x_g0, x_gP, x_pI, x_pZ, x_pL, x_pP, x_al, x_as, x_all, x_asl, x_alr, x_len, x_cpy, x_m2, x_m1, x_m2l, x_m1l, x_call, x_cv, x_ri, x_rz, x_rl, x_rv, zg, zset, zbef, zlong, zcat, cond_true, cond_false, List.take, List.drop, rv1, rv2, rv3, rv4, rv5, rv6, rv7, sm0, sm1, bl0, bl1, bl2, bl3, bl4, bl5, bl6, bl7, bl8, List.nil_append, List.cons_append, List.length_cons, List.length_nil, Nat.reduceBEq, Nat.reduceAdd, Nat.reduceSub, ta, tb, tn0, tn1, tn2, tn3, tn4, tn5, tn6, tn7, tn8, tn9, tn10, tn11, tn12]
      refine p_tellsAll hs hT (fun ok => ?_) (fun no => ?_)
      · dsimp only [bX12_places_44, x_int, x_lng, x_ild, x_lld, x_ald, x_ist, x_ast, x_lst, x_inc, x_ii, x_id, x_i, x_ll, x_ld, x_l, x_cmp, x_i2l, x_l2i, x_if, x_ic, x_dup, x_pop, x_dup2, x_gI, x_gL, x_gR, x_g1, x_g0, x_gP, x_pI, x_pZ, x_pL, x_pP, x_al, x_as, x_all, x_asl, x_alr, x_len, x_cpy, x_m2, x_m1, x_m2l, x_m1l, x_call, x_cv, x_ri, x_rz, x_rl, x_rv, zg, zset, zbef, zlong, zcat, cond_true, cond_false, List.take, List.drop, rv1, rv2, rv3, rv4, rv5, rv6, rv7, sm0, sm1, bl0, bl1, bl2, bl3, bl4, bl5, bl6, bl7, bl8, List.nil_append, List.cons_append, List.length_cons, List.length_nil, Nat.reduceBEq, Nat.reduceAdd, Nat.reduceSub, ta, tb, tn0, tn1, tn2, tn3, tn4, tn5, tn6, tn7, tn8, tn9, tn10, tn11, tn12]
        rw [n_succ s]
        rw [if_pos ok] at st
        refine ⟨fun z => absurd z (by decide), fun _ => hself _ _ ⟨?_, rfl⟩⟩
        rw [st]; rfl
      · dsimp only [bX12_places_44, x_int, x_lng, x_ild, x_lld, x_ald, x_ist, x_ast, x_lst, x_inc, x_ii, x_id, x_i, x_ll, x_ld, x_l, x_cmp, x_i2l, x_l2i, x_if, x_ic, x_dup, x_pop, x_dup2, x_gI, x_gL, x_gR, x_g1, x_g0, x_gP, x_pI, x_pZ, x_pL, x_pP, x_al, x_as, x_all, x_asl, x_alr, x_len, x_cpy, x_m2, x_m1, x_m2l, x_m1l, x_call, x_cv, x_ri, x_rz, x_rl, x_rv, zg, zset, zbef, zlong, zcat, cond_true, cond_false, List.take, List.drop, rv1, rv2, rv3, rv4, rv5, rv6, rv7, sm0, sm1, bl0, bl1, bl2, bl3, bl4, bl5, bl6, bl7, bl8, List.nil_append, List.cons_append, List.length_cons, List.length_nil, Nat.reduceBEq, Nat.reduceAdd, Nat.reduceSub, ta, tb, tn0, tn1, tn2, tn3, tn4, tn5, tn6, tn7, tn8, tn9, tn10, tn11, tn12]
        rw [n_succ s]
        rw [if_neg no] at st
        refine ⟨fun _ => hself _ _ ⟨?_, rfl⟩, fun z => absurd rfl z⟩
        rw [st]
    dsimp only [x_int, x_lng, x_ild, x_lld, x_ald, x_ist, x_ast, x_lst, x_inc, x_ii, x_id, x_i, x_ll, x_ld, x_l, x_cmp, x_i2l, x_l2i, x_if, x_ic, x_dup, x_pop, x_dup2, x_gI, x_gL, x_gR, x_g1, x_g0, x_gP, x_pI, x_pZ, x_pL, x_pP, x_al, x_as, x_all, x_asl, x_alr, x_len, x_cpy, x_m2, x_m1, x_m2l, x_m1l, x_call, x_cv, x_ri, x_rz, x_rl, x_rv, zg, zset, zbef, zlong, zcat, cond_true, cond_false, List.take, List.drop, rv1, rv2, rv3, rv4, rv5, rv6, rv7, sm0, sm1, bl0, bl1, bl2, bl3, bl4, bl5, bl6, bl7, bl8, List.nil_append, List.cons_append, List.length_cons, List.length_nil, Nat.reduceBEq, Nat.reduceAdd, Nat.reduceSub, ta, tb, tn0, tn1, tn2, tn3, tn4, tn5, tn6, tn7, tn8, tn9, tn10, tn11, tn12]
    refine ⟨fun q => absurd q (lt_go (n := 64) rfl (by omega) hs), fun _ => ⟨fun q => go ?_, fun q => p_manyOf12 hs ?_⟩⟩
    · cases e : plc A.T s with
      | none => rfl
      | some b =>
        have := plc_lt e
        rw [e] at q
        have q : nI b < nI 0 := q
        rw [n_lt (by omega) (by omega)] at q
        omega
    · dsimp only [x_int, x_lng, x_ild, x_lld, x_ald, x_ist, x_ast, x_lst, x_inc, x_ii, x_id, x_i, x_ll, x_ld, x_l, x_cmp, x_i2l, x_l2i, x_if, x_ic, x_dup, x_pop, x_dup2, x_gI, x_gL, x_gR, x_g1, x_g0, x_gP, x_pI, x_pZ, x_pL, x_pP, x_al, x_as, x_all, x_asl, x_alr, x_len, x_cpy, x_m2, x_m1, x_m2l, x_m1l, x_call, x_cv, x_ri, x_rz, x_rl, x_rv, zg, zset, zbef, zlong, zcat, cond_true, cond_false, List.take, List.drop, rv1, rv2, rv3, rv4, rv5, rv6, rv7, sm0, sm1, bl0, bl1, bl2, bl3, bl4, bl5, bl6, bl7, bl8, List.nil_append, List.cons_append, List.length_cons, List.length_nil, Nat.reduceBEq, Nat.reduceAdd, Nat.reduceSub, ta, tb, tn0, tn1, tn2, tn3, tn4, tn5, tn6, tn7, tn8, tn9, tn10, tn11, tn12]
      cases e : plc A.T s with
      | none => rw [e] at q; exact absurd (show (-2 : Int32) < 0 by decide) q
      | some b =>
        have hb := plc_lt e
        rw [e] at go st
        dsimp only [wbI]
        refine p_manyOf12 (by omega) ?_
        have a1 := pop6_6 s
        have a2 := pop6_6 b
        dsimp only [x_int, x_lng, x_ild, x_lld, x_ald, x_ist, x_ast, x_lst, x_inc, x_ii, x_id, x_i, x_ll, x_ld, x_l, x_cmp, x_i2l, x_l2i, x_if, x_ic, x_dup, x_pop, x_dup2, x_gI, x_gL, x_gR, x_g1, x_g0, x_gP, x_pI, x_pZ, x_pL, x_pP, x_al, x_as, x_all, x_asl, x_alr, x_len, x_cpy, x_m2, x_m1, x_m2l, x_m1l, x_call, x_cv, x_ri, x_rz, x_rl, x_rv, zg, zset, zbef, zlong, zcat, cond_true, cond_false, List.take, List.drop, rv1, rv2, rv3, rv4, rv5, rv6, rv7, sm0, sm1, bl0, bl1, bl2, bl3, bl4, bl5, bl6, bl7, bl8, List.nil_append, List.cons_append, List.length_cons, List.length_nil, Nat.reduceBEq, Nat.reduceAdd, Nat.reduceSub, ta, tb, tn0, tn1, tn2, tn3, tn4, tn5, tn6, tn7, tn8, tn9, tn10, tn11, tn12, bX12_places_44]
        rw [n_succ s]
        refine ⟨fun c => go ?_, fun c => ?_⟩
        · have c : nI (pop6 s) < nI (pop6 b) := c
          rw [n_lt (by omega) (by omega)] at c
          show decide (pop6 s < pop6 b) = true
          rw [decide_eq_true_eq]; omega
        · have c : ¬ nI (pop6 s) < nI (pop6 b) := c
          rw [n_lt (by omega) (by omega)] at c
          rw [if_neg (by show ¬ decide (pop6 s < pop6 b) = true; rw [decide_eq_true_eq]; omega)] at st
          refine hself _ _ ⟨?_, rfl⟩
          rw [st]; rfl
  · rintro Z M ⟨rfl, rfl⟩ self
    dsimp only [x_int, x_lng, x_ild, x_lld, x_ald, x_ist, x_ast, x_lst, x_inc, x_ii, x_id, x_i, x_ll, x_ld, x_l, x_cmp, x_i2l, x_l2i, x_if, x_ic, x_dup, x_pop, x_dup2, x_gI, x_gL, x_gR, x_g1, x_g0, x_gP, x_pI, x_pZ, x_pL, x_pP, x_al, x_as, x_all, x_asl, x_alr, x_len, x_cpy, x_m2, x_m1, x_m2l, x_m1l, x_call, x_cv, x_ri, x_rz, x_rl, x_rv, zg, zset, zbef, zlong, zcat, cond_true, cond_false, List.take, List.drop, rv1, rv2, rv3, rv4, rv5, rv6, rv7, sm0, sm1, bl0, bl1, bl2, bl3, bl4, bl5, bl6, bl7, bl8, List.nil_append, List.cons_append, List.length_cons, List.length_nil, Nat.reduceBEq, Nat.reduceAdd, Nat.reduceSub, ta, tb, tn0, tn1, tn2, tn3, tn4, tn5, tn6, tn7, tn8, tn9, tn10, tn11, tn12]
    exact ⟨fun _ => hK I1 f1, fun q => absurd q (lt_out (n := 64) rfl)⟩
-- rap: what is thrown, and the answer
def v_rap (A : aA) (r x : Int32) : Int32 × Int32 := if okN (A.T.1 2) r then (if x = 0 then (0, A.T.2.1 8 r.toNatClampNeg) else if x = 1 then (0, A.S 3 r.toNatClampNeg) else if x = 2 then (0, A.S 4 r.toNatClampNeg) else if x = 3 then (0, A.S 5 r.toNatClampNeg) else if x = 4 then (0, A.S 6 r.toNatClampNeg) else if x = 5 then (0, if A.S 7 r.toNatClampNeg = 0 then 0 else 1) else if x = 6 then (0, dgt (A.S 8) r.toNatClampNeg) else (2, 0)) else (1, 0)
theorem p_fails {K : zQ} {I : zI} {L : zJ} {P : zP} {x : Int32} (hK : ∀ I' : zI, frR I I' → I' 12 0 2 = x → K [.inl 0] (I', L, P)) : mX12_fails K [refR, .inl x] (I, L, P) := by
  show bX12_fails_0 K [some (.inr (.inr (12,0))), some (.inl x)] [] (I, L, P)
  unfold bX12_fails_0
  dsimp only [x_int, x_lng, x_ild, x_lld, x_ald, x_ist, x_ast, x_lst, x_inc, x_ii, x_id, x_i, x_ll, x_ld, x_l, x_cmp, x_i2l, x_l2i, x_if, x_ic, x_dup, x_pop, x_dup2, x_gI, x_gL, x_gR, x_g1, x_g0, x_gP, x_pI, x_pZ, x_pL, x_pP, x_al, x_as, x_all, x_asl, x_alr, x_len, x_cpy, x_m2, x_m1, x_m2l, x_m1l, x_call, x_cv, x_ri, x_rz, x_rl, x_rv, zg, zset, zbef, zlong, zcat, cond_true, cond_false, List.take, List.drop, rv1, rv2, rv3, rv4, rv5, rv6, rv7, sm0, sm1, bl0, bl1, bl2, bl3, bl4, bl5, bl6, bl7, bl8, List.nil_append, List.cons_append, List.length_cons, List.length_nil, Nat.reduceBEq, Nat.reduceAdd, Nat.reduceSub, ta, tb, tn0, tn1, tn2, tn3, tn4, tn5, tn6, tn7, tn8, tn9, tn10, tn11, tn12]
  obtain ⟨I2, e2, w2, f2⟩ := zsI_ex I L P 12 0 2 x
  rw [e2]
  exact hK I2 (fun a i c q => f2 a i c (fun e => q ⟨e.2.1, Or.inr (Or.inr (Or.inr (Or.inr ⟨e.1, Or.inl e.2.2⟩)))⟩)) w2
theorem r_rap {K : zQ} {I : zI} {L : zJ} {P : zP} {A : aA} {r x : Int32} (hR : RR A I L) (hK : ∀ (I' : zI), frR I I' → I' 12 0 2 = (v_rap A r x).1 → K [.inl (v_rap A r x).2] (I', L, P)) : mX12_rap K [refR, .inl r, .inl x] (I, L, P) := by
  unfold v_rap at hK
  show bX12_rap_0 K [some (.inr (.inr (12,0))), some (.inl r), some (.inl x)] [] (I, L, P)
  unfold bX12_rap_0
  obtain ⟨I1, e9, w9, f9⟩ := zsI_ex I L P 12 0 2 0
  dsimp only [x_ald, x_int, x_pI, zg, Nat.reduceBEq, cond_true]
  rw [e9]
  have f1 : frR I I1 := fun a i c q => f9 a i c (fun e => q ⟨e.2.1, Or.inr (Or.inr (Or.inr (Or.inr ⟨e.1, Or.inl e.2.2⟩)))⟩)
  have hR1 := hR.q f1 zeLr.rf
  have hT := hR1.1
  have hS := hR1.2.1
  have r10 := hT.r10
  dsimp only [x_int, x_lng, x_ild, x_lld, x_ald, x_ist, x_ast, x_lst, x_inc, x_ii, x_id, x_i, x_ll, x_ld, x_l, x_cmp, x_i2l, x_l2i, x_if, x_ic, x_dup, x_pop, x_dup2, x_gI, x_gL, x_gR, x_g1, x_g0, x_gP, x_pI, x_pZ, x_pL, x_pP, x_al, x_as, x_all, x_asl, x_alr, x_len, x_cpy, x_m2, x_m1, x_m2l, x_m1l, x_call, x_cv, x_ri, x_rz, x_rl, x_rv, zg, zset, zbef, zlong, zcat, cond_true, cond_false, List.take, List.drop, rv1, rv2, rv3, rv4, rv5, rv6, rv7, sm0, sm1, bl0, bl1, bl2, bl3, bl4, bl5, bl6, bl7, bl8, List.nil_append, List.cons_append, List.length_cons, List.length_nil, Nat.reduceBEq, Nat.reduceAdd, Nat.reduceSub, ta, tb, tn0, tn1, tn2, tn3, tn4, tn5, tn6, tn7, tn8, tn9, tn10, tn11, tn12]
  refine p_isRapR hT (fun ok => ?_) (fun no => ?_)
  · dsimp only [x_int, x_lng, x_ild, x_lld, x_ald, x_ist, x_ast, x_lst, x_inc, x_ii, x_id, x_i, x_ll, x_ld, x_l, x_cmp, x_i2l, x_l2i, x_if, x_ic, x_dup, x_pop, x_dup2, x_gI, x_gL, x_gR, x_g1, x_g0, x_gP, x_pI, x_pZ, x_pL, x_pP, x_al, x_as, x_all, x_asl, x_alr, x_len, x_cpy, x_m2, x_m1, x_m2l, x_m1l, x_call, x_cv, x_ri, x_rz, x_rl, x_rv, zg, zset, zbef, zlong, zcat, cond_true, cond_false, List.take, List.drop, rv1, rv2, rv3, rv4, rv5, rv6, rv7, sm0, sm1, bl0, bl1, bl2, bl3, bl4, bl5, bl6, bl7, bl8, List.nil_append, List.cons_append, List.length_cons, List.length_nil, Nat.reduceBEq, Nat.reduceAdd, Nat.reduceSub, ta, tb, tn0, tn1, tn2, tn3, tn4, tn5, tn6, tn7, tn8, tn9, tn10, tn11, tn12, g_sw, zk_63, zl_63, zk_79, zl_79, zk_80, zl_80, zk_81, zl_81, zk_82, zl_82, zk_83, zl_83, bX12_rap_113]
    obtain ⟨y, rfl, hy⟩ := ok_of (by omega) ok
    have hk := hK I1 f1
    rw [if_pos ok, n_cl (n := y) (by omega)] at hk
    rw [if_pos ok, n_cl (n := y) (by omega)] at hK
    rw [n_cl (n := y) (by omega), show (6 : Int32) * nI y = nI (6 * y) by rw [show (6 : Int32) = nI 6 from rfl, n_mul]]
    obtain ⟨s1, s2, s3, s4, s5, s6, s7⟩ := hS.2.2.1 y hy
    rw [show 10 * 0 + y = y by omega] at s1 s2 s3 s4 s5
    rw [(hT.rap hy).1, s1, s2, s3, s4, s5]
    have zy : zin (nI y) 20 := n_zin (by omega) (by decide)
    refine ⟨fun q => absurd q (by decide), fun _ => ⟨fun e0 => ⟨zy, ?_⟩, fun e0 => ⟨fun e1 => ⟨zy, ?_⟩, fun e1 => ⟨fun e2 => ⟨zy, ?_⟩, fun e2 => ⟨fun e3 => ⟨zy, ?_⟩, fun e3 => ⟨fun e4 => ⟨zy, ?_⟩, fun e4 => ⟨fun e5 => ⟨zy, ?_⟩, fun e5 => ⟨fun e6 => p_digitsR (o := 6 * y) rfl (by show 6 * y + 6 ≤ 120; omega) (by decide) ?_, fun e6 => p_fails (fun I2 hI2 w2 => ?_)⟩⟩⟩⟩⟩⟩⟩⟩
    · rw [if_pos e0] at hk; exact hk w9
    · rw [if_neg e0, if_pos e1] at hk; exact hk w9
    · rw [if_neg e0, if_neg e1, if_pos e2] at hk; exact hk w9
    · rw [if_neg e0, if_neg e1, if_neg e2, if_pos e3] at hk; exact hk w9
    · rw [if_neg e0, if_neg e1, if_neg e2, if_neg e3, if_pos e4] at hk; exact hk w9
    · rw [if_neg e0, if_neg e1, if_neg e2, if_neg e3, if_neg e4, if_pos e5] at hk
      have hk : K [.inl (if A.S 7 y = 0 then 0 else 1)] (I1, L, P) := hk w9
      refine ⟨fun c => ?_, fun c => ?_⟩
      · rw [if_pos c] at hk; exact hk
      · rw [if_neg c] at hk; exact hk
    · dsimp only [x_int, x_lng, x_ild, x_lld, x_ald, x_ist, x_ast, x_lst, x_inc, x_ii, x_id, x_i, x_ll, x_ld, x_l, x_cmp, x_i2l, x_l2i, x_if, x_ic, x_dup, x_pop, x_dup2, x_gI, x_gL, x_gR, x_g1, x_g0, x_gP, x_pI, x_pZ, x_pL, x_pP, x_al, x_as, x_all, x_asl, x_alr, x_len, x_cpy, x_m2, x_m1, x_m2l, x_m1l, x_call, x_cv, x_ri, x_rz, x_rl, x_rv, zg, zset, zbef, zlong, zcat, cond_true, cond_false, List.take, List.drop, rv1, rv2, rv3, rv4, rv5, rv6, rv7, sm0, sm1, bl0, bl1, bl2, bl3, bl4, bl5, bl6, bl7, bl8, List.nil_append, List.cons_append, List.length_cons, List.length_nil, Nat.reduceBEq, Nat.reduceAdd, Nat.reduceSub, ta, tb, tn0, tn1, tn2, tn3, tn4, tn5, tn6, tn7, tn8, tn9, tn10, tn11, tn12]
      rw [if_neg e0, if_neg e1, if_neg e2, if_neg e3, if_neg e4, if_neg e5, if_pos e6] at hk
      rw [dgn_congr (g := fun k => A.S 8 (6 * y + k)) (fun k hk => by have := s7 k hk; rw [show 60 * 0 + 6 * y + k = 6 * y + k by omega] at this; exact this)]
      exact hk w9
    · dsimp only [x_int, x_lng, x_ild, x_lld, x_ald, x_ist, x_ast, x_lst, x_inc, x_ii, x_id, x_i, x_ll, x_ld, x_l, x_cmp, x_i2l, x_l2i, x_if, x_ic, x_dup, x_pop, x_dup2, x_gI, x_gL, x_gR, x_g1, x_g0, x_gP, x_pI, x_pZ, x_pL, x_pP, x_al, x_as, x_all, x_asl, x_alr, x_len, x_cpy, x_m2, x_m1, x_m2l, x_m1l, x_call, x_cv, x_ri, x_rz, x_rl, x_rv, zg, zset, zbef, zlong, zcat, cond_true, cond_false, List.take, List.drop, rv1, rv2, rv3, rv4, rv5, rv6, rv7, sm0, sm1, bl0, bl1, bl2, bl3, bl4, bl5, bl6, bl7, bl8, List.nil_append, List.cons_append, List.length_cons, List.length_nil, Nat.reduceBEq, Nat.reduceAdd, Nat.reduceSub, ta, tb, tn0, tn1, tn2, tn3, tn4, tn5, tn6, tn7, tn8, tn9, tn10, tn11, tn12]
      rw [if_neg e0, if_neg e1, if_neg e2, if_neg e3, if_neg e4, if_neg e5, if_neg e6] at hK
      exact hK I2 (f1.tr hI2) w2
  · dsimp only [x_int, x_lng, x_ild, x_lld, x_ald, x_ist, x_ast, x_lst, x_inc, x_ii, x_id, x_i, x_ll, x_ld, x_l, x_cmp, x_i2l, x_l2i, x_if, x_ic, x_dup, x_pop, x_dup2, x_gI, x_gL, x_gR, x_g1, x_g0, x_gP, x_pI, x_pZ, x_pL, x_pP, x_al, x_as, x_all, x_asl, x_alr, x_len, x_cpy, x_m2, x_m1, x_m2l, x_m1l, x_call, x_cv, x_ri, x_rz, x_rl, x_rv, zg, zset, zbef, zlong, zcat, cond_true, cond_false, List.take, List.drop, rv1, rv2, rv3, rv4, rv5, rv6, rv7, sm0, sm1, bl0, bl1, bl2, bl3, bl4, bl5, bl6, bl7, bl8, List.nil_append, List.cons_append, List.length_cons, List.length_nil, Nat.reduceBEq, Nat.reduceAdd, Nat.reduceSub, ta, tb, tn0, tn1, tn2, tn3, tn4, tn5, tn6, tn7, tn8, tn9, tn10, tn11, tn12]
    refine ⟨fun _ => p_fails (fun I2 hI2 w2 => ?_), fun z => absurd rfl z⟩
    dsimp only [x_int, x_lng, x_ild, x_lld, x_ald, x_ist, x_ast, x_lst, x_inc, x_ii, x_id, x_i, x_ll, x_ld, x_l, x_cmp, x_i2l, x_l2i, x_if, x_ic, x_dup, x_pop, x_dup2, x_gI, x_gL, x_gR, x_g1, x_g0, x_gP, x_pI, x_pZ, x_pL, x_pP, x_al, x_as, x_all, x_asl, x_alr, x_len, x_cpy, x_m2, x_m1, x_m2l, x_m1l, x_call, x_cv, x_ri, x_rz, x_rl, x_rv, zg, zset, zbef, zlong, zcat, cond_true, cond_false, List.take, List.drop, rv1, rv2, rv3, rv4, rv5, rv6, rv7, sm0, sm1, bl0, bl1, bl2, bl3, bl4, bl5, bl6, bl7, bl8, List.nil_append, List.cons_append, List.length_cons, List.length_nil, Nat.reduceBEq, Nat.reduceAdd, Nat.reduceSub, ta, tb, tn0, tn1, tn2, tn3, tn4, tn5, tn6, tn7, tn8, tn9, tn10, tn11, tn12]
    rw [if_neg no] at hK
    exact hK I2 (f1.tr hI2) w2
theorem p_thrown {K : zQ} {I : zI} {L : zJ} {P : zP} (hK : K [.inl (I 12 0 2)] (I, L, P)) : mX12_thrown K [refR] (I, L, P) := by
  show bX12_thrown_0 K [some (.inr (.inr (12,0)))] [] (I, L, P)
  unfold bX12_thrown_0
  dsimp only [x_int, x_lng, x_ild, x_lld, x_ald, x_ist, x_ast, x_lst, x_inc, x_ii, x_id, x_i, x_ll, x_ld, x_l, x_cmp, x_i2l, x_l2i, x_if, x_ic, x_dup, x_pop, x_dup2, x_gI, x_gL, x_gR, x_g1, x_g0, x_gP, x_pI, x_pZ, x_pL, x_pP, x_al, x_as, x_all, x_asl, x_alr, x_len, x_cpy, x_m2, x_m1, x_m2l, x_m1l, x_call, x_cv, x_ri, x_rz, x_rl, x_rv, zg, zset, zbef, zlong, zcat, cond_true, cond_false, List.take, List.drop, rv1, rv2, rv3, rv4, rv5, rv6, rv7, sm0, sm1, bl0, bl1, bl2, bl3, bl4, bl5, bl6, bl7, bl8, List.nil_append, List.cons_append, List.length_cons, List.length_nil, Nat.reduceBEq, Nat.reduceAdd, Nat.reduceSub, ta, tb, tn0, tn1, tn2, tn3, tn4, tn5, tn6, tn7, tn8, tn9, tn10, tn11, tn12]
  exact hK
