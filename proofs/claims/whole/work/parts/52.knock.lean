-- a knock told by its digits
def dig (n i : Nat) : Nat := n / 10 ^ i % 10
def kOK (n : Nat) : Nat → Bool
  | 0 => true
  | i + 1 => kOK n i && (decide (1 ≤ dig n i) && decide (dig n i ≤ 5))
abbrev okK (x : Int32) : Prop := 0 ≤ x ∧ kOK x.toNatClampNeg 6 = true ∧ x.toNatClampNeg / 10 ^ 6 = 0
def knK (n k : Nat) : Int32 := nI (dig n (5 - k))
theorem kOK_all {n : Nat} : ∀ {m i : Nat}, kOK n m = true → i < m → 1 ≤ dig n i ∧ dig n i ≤ 5 := by
  intro m
  induction m with
  | zero => intro i _ h; omega
  | succ m ih =>
    intro i h hi
    unfold kOK at h
    simp only [Bool.and_eq_true, decide_eq_true_eq] at h
    by_cases e : i < m
    · exact ih h.1 e
    · have : i = m := by omega
      subst this; exact h.2
theorem kOK_no {n : Nat} : ∀ {m i : Nat}, i < m → kOK n (i + 1) = false → kOK n m = false := by
  intro m
  induction m with
  | zero => intro i h; omega
  | succ m ih =>
    intro i hi h
    by_cases e : i = m
    · subst e; exact h
    · have := ih (i := i) (by omega) h
      unfold kOK
      rw [this]; rfl
theorem gSm_knK (n : Nat) : gSm (knK n) := fun k hk => ⟨dig n (5 - k), by have : dig n (5 - k) < 10 := Nat.mod_lt _ (by decide); omega, rfl⟩
def kv (i : Nat) : Int32 := if i ≤ 5 then nI (5 - i) else -1
theorem kv_s : ∀ i, i < 6 → nI (5 - i) + -1 = kv (i + 1) := by decide
theorem kv_0 {i : Nat} (h : i < 6) : kv i = nI (5 - i) := if_pos (by omega)
theorem kv_nn {i : Nat} (h : i < 6) : ¬ kv i < 0 := by
  rw [kv_0 h, show (0 : Int32) = nI 0 from rfl, n_lt (by omega) (by omega)]; omega
theorem dig_s (n i : Nat) : n / 10 ^ i / 10 = n / 10 ^ (i + 1) := by rw [Nat.div_div_eq_div_mul, Nat.pow_succ]
theorem div_le' (n i : Nat) : n / 10 ^ i ≤ n := Nat.div_le_self _ _
theorem rem_neg {x : Int32} (h : x < 0) : x - x / 10 * 10 < 1 := by
  have h0 := Int32.lt_iff_toInt_lt.mp h
  have e0 : (0 : Int32).toInt = 0 := rfl
  have e1 : (1 : Int32).toInt = 1 := rfl
  have e10 : (10 : Int32).toInt = 10 := rfl
  have l := Int32.le_toInt x
  have d : (x / 10).toInt = x.toInt.tdiv 10 := by rw [Int32.toInt_div_of_ne_right _ _ (by decide), e10]
  have td : x.toInt.tdiv 10 = -((-x.toInt) / 10) := by
    rw [show x.toInt = -(-x.toInt) by omega, Int.neg_tdiv, Int.tdiv_eq_ediv_of_nonneg (by omega)]
    omega
  have m : (x / 10 * 10).toInt = -((-x.toInt) / 10) * 10 := by
    rw [Int32.toInt_mul, d, td, e10]
    exact Int.bmod_eq_of_le (by omega) (by omega)
  rw [Int32.lt_iff_toInt_lt, Int32.toInt_sub, m, e1]
  rw [Int.bmod_eq_of_le (by omega) (by omega)]
  omega
def fr1 (k : Nat) (I I' : zI) : Prop := ∀ a b c, ¬ (a = k ∧ b = 0) → I' a b c = I a b c
theorem p_isSpread {K : zQ} {I : zI} {L : zJ} {P : zP} {x : Int32} (h1 : okK x → ∀ I' : zI, fr1 48 I I' → (∀ k, k < 6 → I' 48 0 k = knK x.toNatClampNeg k) → K [.inl 1] (I', L, P)) (h0 : ¬ okK x → ∀ I' : zI, fr1 48 I I' → K [.inl 0] (I', L, P)) : mX11_isSpread K [.inl x, .inr (.inr (48, 0))] (I, L, P) := by
  by_cases hx : x < 0
  · show bX11_isSpread_4 K [some (.inl x), some (.inr (.inr (48, 0))), some (.inl x), some (.inl 5), none] [] (I, L, P)
    refine zinv 0 (fun _ Z M => Z = [some (.inl x), some (.inr (.inr (48, 0))), some (.inl x), some (.inl 5), none] ∧ M = (I, L, P)) (fun i L S h => by omega) ?_ ⟨rfl, rfl⟩
    rintro Z M ⟨rfl, rfl⟩ self
    dsimp only [x_int, x_lng, x_ild, x_lld, x_ald, x_ist, x_ast, x_lst, x_inc, x_ii, x_id, x_i, x_ll, x_ld, x_l, x_cmp, x_i2l, x_l2i, x_if, x_ic, x_dup, x_pop, x_dup2, x_gI, x_gL, x_gR, x_g1, x_g0, x_gP, x_pI, x_pZ, x_pL, x_pP, x_al, x_as, x_all, x_asl, x_alr, x_len, x_cpy, x_m2, x_m1, x_m2l, x_m1l, x_call, x_cv, x_ri, x_rz, x_rl, x_rv, zg, zset, zbef, zlong, zcat, cond_true, cond_false, List.take, List.drop, rv1, rv2, rv3, rv4, rv5, rv6, rv7, sm0, sm1, bl0, bl1, bl2, bl3, bl4, bl5, bl6, bl7, bl8, List.nil_append, List.cons_append, List.length_cons, List.length_nil, Nat.reduceBEq, Nat.reduceAdd, Nat.reduceSub, ta, tb, tn0, tn1, tn2, tn3, tn4, tn5, tn6, tn7, tn8, tn9, tn10, tn11, tn12, bX11_isSpread_26]
    exact ⟨fun c => absurd c (by decide), fun _ => ⟨by decide, fun _ => ⟨Or.inl rfl, h0 (fun q => Int32.not_lt.mpr q.1 hx) I (fun _ _ _ _ => rfl)⟩, fun c => absurd (rem_neg hx) c⟩⟩
  · obtain ⟨n, rfl, hn⟩ := n_nn (Int32.not_lt.mp hx)
    rw [n_cl hn] at h1
    unfold okK at h0
    rw [n_cl hn] at h0
    have hge : (0 : Int32) ≤ nI n := Int32.not_lt.mp hx
    show bX11_isSpread_4 K [some (.inl (nI n)), some (.inr (.inr (48, 0))), some (.inl (nI n)), some (.inl 5), none] [] (I, L, P)
    refine zinv 6 (fun i Z M => ∃ (I' : zI) (z4 : Option zV), Z = [some (.inl (nI n)), some (.inr (.inr (48, 0))), some (.inl (nI (n / 10 ^ i))), some (.inl (kv i)), z4] ∧ M = (I', L, P) ∧ fr1 48 I I' ∧ kOK n i = true ∧ ∀ j, j < i → I' 48 0 (5 - j) = nI (dig n j)) ?_ ?_ ⟨I, none, by rw [Nat.pow_zero, Nat.div_one]; rfl, rfl, fun _ _ _ _ => rfl, rfl, fun j hj => by omega⟩
    · rintro i Z M hi ⟨I', z4, rfl, rfl, hI, hok, hd⟩ self hself
      have hb := div_le' n i
      dsimp only [x_int, x_lng, x_ild, x_lld, x_ald, x_ist, x_ast, x_lst, x_inc, x_ii, x_id, x_i, x_ll, x_ld, x_l, x_cmp, x_i2l, x_l2i, x_if, x_ic, x_dup, x_pop, x_dup2, x_gI, x_gL, x_gR, x_g1, x_g0, x_gP, x_pI, x_pZ, x_pL, x_pP, x_al, x_as, x_all, x_asl, x_alr, x_len, x_cpy, x_m2, x_m1, x_m2l, x_m1l, x_call, x_cv, x_ri, x_rz, x_rl, x_rv, zg, zset, zbef, zlong, zcat, cond_true, cond_false, List.take, List.drop, rv1, rv2, rv3, rv4, rv5, rv6, rv7, sm0, sm1, bl0, bl1, bl2, bl3, bl4, bl5, bl6, bl7, bl8, List.nil_append, List.cons_append, List.length_cons, List.length_nil, Nat.reduceBEq, Nat.reduceAdd, Nat.reduceSub, ta, tb, tn0, tn1, tn2, tn3, tn4, tn5, tn6, tn7, tn8, tn9, tn10, tn11, tn12, zk_48, zl_48, bX11_isSpread_26]
      rw [show (10 : Int32) = nI 10 from rfl, pk_rem (by omega) (by decide) (by decide), pk_div (by omega) (by decide) (by decide), dig_s, kv_0 hi, n_cl (n := 5 - i) (by omega), kv_s i hi]
      have hbad : ¬ (1 ≤ dig n i ∧ dig n i ≤ 5) → ¬ (0 ≤ nI n ∧ kOK n 6 = true ∧ n / 10 ^ 6 = 0) := fun h q => h (kOK_all q.2.1 hi)
      have d9 : dig n i < 10 := Nat.mod_lt _ (by decide)
      refine ⟨fun c => absurd c (by rw [show (0 : Int32) = nI 0 from rfl, n_lt (by omega) (by omega)]; omega), fun _ => ⟨by decide, fun c => ?_, fun c => ⟨fun d => ?_, fun d => ?_⟩⟩⟩
      · have c : nI (dig n i) < nI 1 := c
        rw [n_lt (by omega) (by omega)] at c
        exact ⟨Or.inl rfl, h0 (hbad (by omega)) I' hI⟩
      · have c : ¬ nI (dig n i) < nI 1 := c
        have d : nI (dig n i) ≤ nI 5 := d
        rw [n_lt (by omega) (by omega)] at c
        rw [n_le (by omega) (by omega)] at d
        refine ⟨n_zin (by omega) (by decide), by decide, hself _ _ ⟨(zsI (I', L, P) 48 0 (5 - i) (nI (dig n i))).1, some (.inl (nI (dig n i))), rfl, rfl, fun a b c q => ?_, ?_, fun j hj => ?_⟩⟩
        · show (if a = 48 ∧ b = 0 ∧ c = 5 - i then _ else I' a b c) = _
          rw [if_neg (fun e => q ⟨e.1, e.2.1⟩)]; exact hI a b c q
        · unfold kOK
          rw [hok]
          simp; omega
        · show (if 48 = 48 ∧ 0 = 0 ∧ 5 - j = 5 - i then nI (dig n i) else I' 48 0 (5 - j)) = _
          by_cases e : j = i
          · subst e; rw [if_pos ⟨rfl, rfl, rfl⟩]
          · rw [if_neg (by omega)]; exact hd j (by omega)
      · have d : ¬ nI (dig n i) ≤ nI 5 := d
        rw [n_le (by omega) (by omega)] at d
        exact ⟨Or.inl rfl, h0 (hbad (by omega)) I' hI⟩
    · rintro Z M ⟨I', z4, rfl, rfl, hI, hok, hd⟩ self
      dsimp only [x_int, x_lng, x_ild, x_lld, x_ald, x_ist, x_ast, x_lst, x_inc, x_ii, x_id, x_i, x_ll, x_ld, x_l, x_cmp, x_i2l, x_l2i, x_if, x_ic, x_dup, x_pop, x_dup2, x_gI, x_gL, x_gR, x_g1, x_g0, x_gP, x_pI, x_pZ, x_pL, x_pP, x_al, x_as, x_all, x_asl, x_alr, x_len, x_cpy, x_m2, x_m1, x_m2l, x_m1l, x_call, x_cv, x_ri, x_rz, x_rl, x_rv, zg, zset, zbef, zlong, zcat, cond_true, cond_false, List.take, List.drop, rv1, rv2, rv3, rv4, rv5, rv6, rv7, sm0, sm1, bl0, bl1, bl2, bl3, bl4, bl5, bl6, bl7, bl8, List.nil_append, List.cons_append, List.length_cons, List.length_nil, Nat.reduceBEq, Nat.reduceAdd, Nat.reduceSub, ta, tb, tn0, tn1, tn2, tn3, tn4, tn5, tn6, tn7, tn8, tn9, tn10, tn11, tn12, bX11_isSpread_53]
      have hb := div_le' n 6
      refine ⟨fun _ => ⟨fun c => ⟨Or.inr rfl, ?_⟩, fun c => ⟨Or.inl rfl, ?_⟩⟩, fun c => absurd (show kv 6 < 0 by decide) c⟩
      · have c : nI (n / 10 ^ 6) = nI 0 := c
        rw [n_eq (by omega) (by omega)] at c
        refine h1 ⟨hge, by rw [n_cl hn]; exact hok, by rw [n_cl hn]; exact c⟩ I' hI (fun k hk => ?_)
        have := hd (5 - k) (by omega)
        rw [show 5 - (5 - k) = k by omega] at this
        exact this
      · refine h0 (fun q => c ?_) I' hI
        show nI (n / 10 ^ 6) = 0
        rw [q.2.2]; rfl
theorem p_isKnock {K : zQ} {I : zI} {L : zJ} {P : zP} {x : Int32} (h1 : okK x → ∀ I' : zI, fr1 87 I I' → (∀ k, k < 6 → I' 87 0 k = knK x.toNatClampNeg k) → K [.inl 1] (I', L, P)) (h0 : ¬ okK x → ∀ I' : zI, fr1 87 I I' → K [.inl 0] (I', L, P)) : mX12_isKnock K [refR, .inl x] (I, L, P) := by
  show bX12_isKnock_0 K [some (.inr (.inr (12,0))), some (.inl x), none, none, none] [] (I, L, P)
  unfold bX12_isKnock_0
  dsimp only [x_int, x_lng, x_ild, x_lld, x_ald, x_ist, x_ast, x_lst, x_inc, x_ii, x_id, x_i, x_ll, x_ld, x_l, x_cmp, x_i2l, x_l2i, x_if, x_ic, x_dup, x_pop, x_dup2, x_gI, x_gL, x_gR, x_g1, x_g0, x_gP, x_pI, x_pZ, x_pL, x_pP, x_al, x_as, x_all, x_asl, x_alr, x_len, x_cpy, x_m2, x_m1, x_m2l, x_m1l, x_call, x_cv, x_ri, x_rz, x_rl, x_rv, zg, zset, zbef, zlong, zcat, cond_true, cond_false, List.take, List.drop, rv1, rv2, rv3, rv4, rv5, rv6, rv7, sm0, sm1, bl0, bl1, bl2, bl3, bl4, bl5, bl6, bl7, bl8, List.nil_append, List.cons_append, List.length_cons, List.length_nil, Nat.reduceBEq, Nat.reduceAdd, Nat.reduceSub, ta, tb, tn0, tn1, tn2, tn3, tn4, tn5, tn6, tn7, tn8, tn9, tn10, tn11, tn12]
  refine ⟨fun hge => ?_, fun c => ⟨Or.inl rfl, h0 (fun q => c q.1) I (fun _ _ _ _ => rfl)⟩⟩
  obtain ⟨n, rfl, hn⟩ := n_nn hge
  rw [n_cl hn] at h1
  unfold okK at h0
  rw [n_cl hn] at h0
  refine zinv 6 (fun i Z M => ∃ (I' : zI), Z = [some refR, some (.inl (nI n)), some (.inl (nI (n / 10 ^ i))), some (.inl (if kOK n i = true then 1 else 0)), some (.inl (kv i))] ∧ M = (I', L, P) ∧ fr1 87 I I' ∧ ∀ j, j < i → I' 87 0 (5 - j) = nI (dig n j)) ?_ ?_ ⟨I, by rw [Nat.pow_zero, Nat.div_one]; rfl, rfl, fun _ _ _ _ => rfl, fun j hj => by omega⟩
  · rintro i Z M hi ⟨I', rfl, rfl, hI, hd⟩ self hself
    have hb := div_le' n i
    have d9 : dig n i < 10 := Nat.mod_lt _ (by decide)
    have e10 : nI (n / 10 ^ i) - nI (n / 10 ^ i) / 10 * 10 = nI (dig n i) := by
      rw [show (10 : Int32) = nI 10 from rfl, pk_rem (by omega) (by decide) (by decide)]; rfl
    have e11 : nI (n / 10 ^ i) / 10 = nI (n / 10 ^ (i + 1)) := by
      rw [show (10 : Int32) = nI 10 from rfl, pk_div (by omega) (by decide) (by decide), dig_s]
    have fin : ∀ v : Int32, v = (if kOK n (i + 1) = true then 1 else 0) → self [some refR, some (.inl (nI n)), some (.inl (nI (n / 10 ^ (i + 1)))), some (.inl v), some (.inl (kv (i + 1)))] [] (zsI (I', L, P) 87 0 (5 - i) (nI (dig n i))) := fun v hv => by
      rw [hv]
      refine hself _ _ ⟨_, rfl, rfl, fun a b c q => ?_, fun j hj => ?_⟩
      · show (if a = 87 ∧ b = 0 ∧ c = 5 - i then _ else I' a b c) = _
        rw [if_neg (fun e => q ⟨e.1, e.2.1⟩)]; exact hI a b c q
      · show (if 87 = 87 ∧ 0 = 0 ∧ 5 - j = 5 - i then nI (dig n i) else I' 87 0 (5 - j)) = _
        by_cases e : j = i
        · subst e; rw [if_pos ⟨rfl, rfl, rfl⟩]
        · rw [if_neg (by omega)]; exact hd j (by omega)
    have ek : kOK n (i + 1) = (kOK n i && (decide (1 ≤ dig n i) && decide (dig n i ≤ 5))) := rfl
    dsimp only [x_int, x_lng, x_ild, x_lld, x_ald, x_ist, x_ast, x_lst, x_inc, x_ii, x_id, x_i, x_ll, x_ld, x_l, x_cmp, x_i2l, x_l2i, x_if, x_ic, x_dup, x_pop, x_dup2, x_gI, x_gL, x_gR, x_g1, x_g0, x_gP, x_pI, x_pZ, x_pL, x_pP, x_al, x_as, x_all, x_asl, x_alr, x_len, x_cpy, x_m2, x_m1, x_m2l, x_m1l, x_call, x_cv, x_ri, x_rz, x_rl, x_rv, zg, zset, zbef, zlong, zcat, cond_true, cond_false, List.take, List.drop, rv1, rv2, rv3, rv4, rv5, rv6, rv7, sm0, sm1, bl0, bl1, bl2, bl3, bl4, bl5, bl6, bl7, bl8, List.nil_append, List.cons_append, List.length_cons, List.length_nil, Nat.reduceBEq, Nat.reduceAdd, Nat.reduceSub, ta, tb, tn0, tn1, tn2, tn3, tn4, tn5, tn6, tn7, tn8, tn9, tn10, tn11, tn12, zk_87, zl_87, bX12_isKnock_49, bX12_isKnock_50]
    rw [kv_0 hi, n_cl (n := 5 - i) (by omega), kv_s i hi, e10, e11]
    refine ⟨fun c => absurd c (by rw [show (0 : Int32) = nI 0 from rfl, n_lt (by omega) (by omega)]; omega), fun _ => ⟨by decide, n_zin (by omega) (by decide), fun c => ⟨by decide, ?_⟩, fun c => ⟨by decide, p_isIn (fun ok => ?_) (fun no => ?_)⟩⟩⟩
    · refine fin 0 ?_
      by_cases e : kOK n i = true
      · rw [if_pos e] at c; exact absurd c (by decide)
      · rw [ek]; simp [e]
    · dsimp only [x_int, x_lng, x_ild, x_lld, x_ald, x_ist, x_ast, x_lst, x_inc, x_ii, x_id, x_i, x_ll, x_ld, x_l, x_cmp, x_i2l, x_l2i, x_if, x_ic, x_dup, x_pop, x_dup2, x_gI, x_gL, x_gR, x_g1, x_g0, x_gP, x_pI, x_pZ, x_pL, x_pP, x_al, x_as, x_all, x_asl, x_alr, x_len, x_cpy, x_m2, x_m1, x_m2l, x_m1l, x_call, x_cv, x_ri, x_rz, x_rl, x_rv, zg, zset, zbef, zlong, zcat, cond_true, cond_false, List.take, List.drop, rv1, rv2, rv3, rv4, rv5, rv6, rv7, sm0, sm1, bl0, bl1, bl2, bl3, bl4, bl5, bl6, bl7, bl8, List.nil_append, List.cons_append, List.length_cons, List.length_nil, Nat.reduceBEq, Nat.reduceAdd, Nat.reduceSub, ta, tb, tn0, tn1, tn2, tn3, tn4, tn5, tn6, tn7, tn8, tn9, tn10, tn11, tn12, bX12_isKnock_49, bX12_isKnock_50]
      refine ⟨fun z => absurd z (by decide), fun _ => ⟨by decide, fin 1 ?_⟩⟩
      have a1 : nI 1 ≤ nI (dig n i) := ok.1
      have a2 : nI (dig n i) ≤ nI 5 := ok.2
      rw [n_le (by omega) (by omega)] at a1 a2
      by_cases e : kOK n i = true
      · rw [ek, e]; simp [a1, a2]
      · rw [if_neg e] at c; exact absurd rfl c
    · dsimp only [x_int, x_lng, x_ild, x_lld, x_ald, x_ist, x_ast, x_lst, x_inc, x_ii, x_id, x_i, x_ll, x_ld, x_l, x_cmp, x_i2l, x_l2i, x_if, x_ic, x_dup, x_pop, x_dup2, x_gI, x_gL, x_gR, x_g1, x_g0, x_gP, x_pI, x_pZ, x_pL, x_pP, x_al, x_as, x_all, x_asl, x_alr, x_len, x_cpy, x_m2, x_m1, x_m2l, x_m1l, x_call, x_cv, x_ri, x_rz, x_rl, x_rv, zg, zset, zbef, zlong, zcat, cond_true, cond_false, List.take, List.drop, rv1, rv2, rv3, rv4, rv5, rv6, rv7, sm0, sm1, bl0, bl1, bl2, bl3, bl4, bl5, bl6, bl7, bl8, List.nil_append, List.cons_append, List.length_cons, List.length_nil, Nat.reduceBEq, Nat.reduceAdd, Nat.reduceSub, ta, tb, tn0, tn1, tn2, tn3, tn4, tn5, tn6, tn7, tn8, tn9, tn10, tn11, tn12, bX12_isKnock_49, bX12_isKnock_50]
      refine ⟨fun _ => ⟨by decide, fin 0 ?_⟩, fun z => absurd rfl z⟩
      have : ¬ (1 ≤ dig n i ∧ dig n i ≤ 5) := fun q => no ⟨by rw [show (1 : Int32) = nI 1 from rfl, n_le (by omega) (by omega)]; exact q.1, by rw [show (5 : Int32) = nI 5 from rfl, n_le (by omega) (by omega)]; exact q.2⟩
      have e2 : (decide (1 ≤ dig n i) && decide (dig n i ≤ 5)) = false := by
        cases h : (decide (1 ≤ dig n i) && decide (dig n i ≤ 5)) with
        | false => rfl
        | true =>
          simp only [Bool.and_eq_true, decide_eq_true_eq] at h
          exact absurd h this
      rw [ek, e2, Bool.and_false]; rfl
  · rintro Z M ⟨I', rfl, rfl, hI, hd⟩ self
    have hb := div_le' n 6
    dsimp only [x_int, x_lng, x_ild, x_lld, x_ald, x_ist, x_ast, x_lst, x_inc, x_ii, x_id, x_i, x_ll, x_ld, x_l, x_cmp, x_i2l, x_l2i, x_if, x_ic, x_dup, x_pop, x_dup2, x_gI, x_gL, x_gR, x_g1, x_g0, x_gP, x_pI, x_pZ, x_pL, x_pP, x_al, x_as, x_all, x_asl, x_alr, x_len, x_cpy, x_m2, x_m1, x_m2l, x_m1l, x_call, x_cv, x_ri, x_rz, x_rl, x_rv, zg, zset, zbef, zlong, zcat, cond_true, cond_false, List.take, List.drop, rv1, rv2, rv3, rv4, rv5, rv6, rv7, sm0, sm1, bl0, bl1, bl2, bl3, bl4, bl5, bl6, bl7, bl8, List.nil_append, List.cons_append, List.length_cons, List.length_nil, Nat.reduceBEq, Nat.reduceAdd, Nat.reduceSub, ta, tb, tn0, tn1, tn2, tn3, tn4, tn5, tn6, tn7, tn8, tn9, tn10, tn11, tn12, bX12_isKnock_74, bX12_isKnock_75]
    refine ⟨fun _ => ⟨fun c => ⟨Or.inl rfl, h0 (fun q => ?_) I' hI⟩, fun c => ⟨fun d => ⟨Or.inr rfl, ?_⟩, fun d => ⟨Or.inl rfl, h0 (fun q => d ?_) I' hI⟩⟩⟩, fun c => absurd (show kv 6 < 0 by decide) c⟩
    · rw [if_pos q.2.1] at c; exact absurd c (by decide)
    · have d : nI (n / 10 ^ 6) = nI 0 := d
      rw [n_eq (by omega) (by omega)] at d
      have hok : kOK n 6 = true := by
        by_cases e : kOK n 6 = true
        · exact e
        · rw [if_neg e] at c; exact absurd rfl c
      refine h1 ⟨hge, by rw [n_cl hn]; exact hok, by rw [n_cl hn]; exact d⟩ I' hI (fun k hk => ?_)
      have := hd (5 - k) (by omega)
      rw [show 5 - (5 - k) = k by omega] at this
      exact this
    · show nI (n / 10 ^ 6) = 0
      rw [q.2.2]; rfl
