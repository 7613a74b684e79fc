theorem l_toInt {n : Nat} (h : n < 9223372036854775808) : (lN n).toInt = (n : Int) := by
  unfold lN
  exact Int64.toInt_ofNat_of_lt (by omega)
theorem l_lt {a b : Nat} (ha : a < 9223372036854775808) (hb : b < 9223372036854775808) : lN a < lN b ↔ a < b := by
  rw [Int64.lt_iff_toInt_lt, l_toInt ha, l_toInt hb]; omega
theorem l_le {a b : Nat} (ha : a < 9223372036854775808) (hb : b < 9223372036854775808) : lN a ≤ lN b ↔ a ≤ b := by
  rw [Int64.le_iff_toInt_le, l_toInt ha, l_toInt hb]; omega
theorem l_eq {a b : Nat} (ha : a < 9223372036854775808) (hb : b < 9223372036854775808) : lN a = lN b ↔ a = b := by
  rw [← Int64.toInt_inj, l_toInt ha, l_toInt hb]; omega
def shN (T : aT) (S : aS) (h w k : Nat) : Nat := (shk T S h w k).toNatClampNeg
theorem shN_ok (T : aT) (S : aS) (h w k : Nat) : shk T S h w k = nI (shN T S h w k) ∧ shN T S h w k ≤ 100 := by
  have rg : 0 ≤ shk T S h w k ∧ shk T S h w k ≤ 100 := wi_rng (by decide)
  unfold shN
  obtain ⟨n, e, hn⟩ := n_nn rg.1
  rw [e] at rg ⊢
  rw [n_cl hn]
  have := rg.2
  rw [show (100 : Int32) = nI 100 from rfl, n_le hn (by decide)] at this
  exact ⟨rfl, this⟩
theorem sh_sub : ∀ m, m ≤ 100 → ((100 : Int32) - nI m).toInt64 = lN (100 - m) := by
  have : ∀ m, m < 101 → ((100 : Int32) - nI m).toInt64 = lN (100 - m) := by decide +kernel
  exact fun m hm => this m (by omega)
def rlN (T : aT) (S : aS) (h w : Nat) : Nat → Nat
  | 0 => 1
  | k + 1 => rlN T S h w k * (100 - shN T S h w k)
theorem rlN_le (T : aT) (S : aS) (h w : Nat) : ∀ k, rlN T S h w k ≤ 100 ^ k := by
  intro k
  induction k with
  | zero => exact Nat.le_refl 1
  | succ k ih =>
    show rlN T S h w k * _ ≤ _
    rw [Nat.pow_succ]
    exact Nat.mul_le_mul ih (by omega)
theorem rlN_6 (T : aT) (S : aS) (h w : Nat) : rlN T S h w 6 ≤ 1000000000000 := rlN_le T S h w 6
theorem p_rightly {K : zQ} {I : zI} {L : zJ} {P : zP} {j t : Nat} {T : aT} {S : aS} {h w : Nat} (ht : P 8 j 0 = t) (hT : CT I t T) (hS : CS I j T S) (hh : h < T.1 0) (hw : w < T.1 1) (hK : ∀ L' : zJ, zeL2 L L' → K [.inr (.inl (lN (rlN T S h w 6)))] (I, L', P)) : mX8_rightly K [.inr (.inr (8, j)), .inl (nI h), .inl (nI w)] (I, L, P) := by
  show bX8_rightly_5 K [some (.inr (.inr (8, j))), some (.inl (nI h)), some (.inl (nI w)), some (.inr (.inl 1)), none, some (.inl 0)] [] (I, L, P)
  refine zinv 6 (fun k Z M => ∃ L' : zJ, Z = [some (.inr (.inr (8, j))), some (.inl (nI h)), some (.inl (nI w)), some (.inr (.inl (lN (rlN T S h w k)))), none, some (.inl (nI k))] ∧ M = (I, L', P) ∧ zeL2 L L') ?_ ?_ ⟨L, rfl, rfl, zeL2.rf⟩
  · rintro k Z M hk ⟨L', rfl, rfl, hL⟩ self hself
    dsimp only [x_int, x_lng, x_ild, x_lld, x_ald, x_ist, x_ast, x_lst, x_inc, x_ii, x_id, x_i, x_ll, x_ld, x_l, x_cmp, x_i2l, x_l2i, x_if, x_ic, x_dup, x_pop, x_dup2, x_gI, x_gL, x_gR, x_g1, x_g0, x_gP, x_pI, x_pZ, x_pL, x_pP, x_al, x_as, x_all, x_asl, x_alr, x_len, x_cpy, x_m2, x_m1, x_m2l, x_m1l, x_call, x_cv, x_ri, x_rz, x_rl, x_rv, zg, zset, zbef, zlong, zcat, cond_true, cond_false, List.take, List.drop, rv1, rv2, rv3, rv4, rv5, rv6, rv7, sm0, sm1, bl0, bl1, bl2, bl3, bl4, bl5, bl6, bl7, bl8, List.nil_append, List.cons_append, List.length_cons, List.length_nil, Nat.reduceBEq, Nat.reduceAdd, Nat.reduceSub, ta, tb, tn0, tn1, tn2, tn3, tn4, tn5, tn6, tn7, tn8, tn9, tn10, tn11, tn12]
    refine ⟨fun c => absurd c (lt_go (n := 6) rfl (by omega) hk), fun _ => p_shake ht hT hS hh hw hk (fun L2 hL2 => ?_)⟩
    obtain ⟨e1, e2⟩ := shN_ok T S h w k
    dsimp only [x_int, x_lng, x_ild, x_lld, x_ald, x_ist, x_ast, x_lst, x_inc, x_ii, x_id, x_i, x_ll, x_ld, x_l, x_cmp, x_i2l, x_l2i, x_if, x_ic, x_dup, x_pop, x_dup2, x_gI, x_gL, x_gR, x_g1, x_g0, x_gP, x_pI, x_pZ, x_pL, x_pP, x_al, x_as, x_all, x_asl, x_alr, x_len, x_cpy, x_m2, x_m1, x_m2l, x_m1l, x_call, x_cv, x_ri, x_rz, x_rl, x_rv, zg, zset, zbef, zlong, zcat, cond_true, cond_false, List.take, List.drop, rv1, rv2, rv3, rv4, rv5, rv6, rv7, sm0, sm1, bl0, bl1, bl2, bl3, bl4, bl5, bl6, bl7, bl8, List.nil_append, List.cons_append, List.length_cons, List.length_nil, Nat.reduceBEq, Nat.reduceAdd, Nat.reduceSub, ta, tb, tn0, tn1, tn2, tn3, tn4, tn5, tn6, tn7, tn8, tn9, tn10, tn11, tn12]
    rw [e1, sh_sub _ e2, lN_mul, n_succ k]
    exact hself _ _ ⟨L2, rfl, rfl, hL.tr hL2⟩
  · rintro Z M ⟨L', rfl, rfl, hL⟩ self
    dsimp only [x_int, x_lng, x_ild, x_lld, x_ald, x_ist, x_ast, x_lst, x_inc, x_ii, x_id, x_i, x_ll, x_ld, x_l, x_cmp, x_i2l, x_l2i, x_if, x_ic, x_dup, x_pop, x_dup2, x_gI, x_gL, x_gR, x_g1, x_g0, x_gP, x_pI, x_pZ, x_pL, x_pP, x_al, x_as, x_all, x_asl, x_alr, x_len, x_cpy, x_m2, x_m1, x_m2l, x_m1l, x_call, x_cv, x_ri, x_rz, x_rl, x_rv, zg, zset, zbef, zlong, zcat, cond_true, cond_false, List.take, List.drop, rv1, rv2, rv3, rv4, rv5, rv6, rv7, sm0, sm1, bl0, bl1, bl2, bl3, bl4, bl5, bl6, bl7, bl8, List.nil_append, List.cons_append, List.length_cons, List.length_nil, Nat.reduceBEq, Nat.reduceAdd, Nat.reduceSub, ta, tb, tn0, tn1, tn2, tn3, tn4, tn5, tn6, tn7, tn8, tn9, tn10, tn11, tn12]
    exact ⟨fun _ => hK L' hL, fun c => absurd c (lt_out (n := 6) rfl)⟩
theorem p_surely {K : zQ} {I : zI} {L : zJ} {P : zP} {T : aT} {S : aS} {h w : Nat} (hT : RT I T) (hS : RS I 0 T S) (hh : h < T.1 0) (hw : w < T.1 1) (hK : ∀ (I' : zI) (L' : zJ), frE I I' → zeLr L L' → K [.inr (.inl (lN (rlN T S h w 6)))] (I', L', P)) : mX12_surely K [refR, .inl (nI h), .inl (nI w)] (I, L, P) := by
  show bX12_surely_5 K [some refR, some (.inl (nI h)), some (.inl (nI w)), some (.inr (.inl 1)), none, some (.inl 0)] [] (I, L, P)
  refine zinv 6 (fun k Z M => ∃ (I' : zI) (L' : zJ), Z = [some refR, some (.inl (nI h)), some (.inl (nI w)), some (.inr (.inl (lN (rlN T S h w k)))), none, some (.inl (nI k))] ∧ M = (I', L', P) ∧ frE I I' ∧ zeLr L L') ?_ ?_ ⟨I, L, rfl, rfl, frE.rf, zeLr.rf⟩
  · rintro k Z M hk ⟨I', L', rfl, rfl, hI, hL⟩ self hself
    dsimp only [x_int, x_lng, x_ild, x_lld, x_ald, x_ist, x_ast, x_lst, x_inc, x_ii, x_id, x_i, x_ll, x_ld, x_l, x_cmp, x_i2l, x_l2i, x_if, x_ic, x_dup, x_pop, x_dup2, x_gI, x_gL, x_gR, x_g1, x_g0, x_gP, x_pI, x_pZ, x_pL, x_pP, x_al, x_as, x_all, x_asl, x_alr, x_len, x_cpy, x_m2, x_m1, x_m2l, x_m1l, x_call, x_cv, x_ri, x_rz, x_rl, x_rv, zg, zset, zbef, zlong, zcat, cond_true, cond_false, List.take, List.drop, rv1, rv2, rv3, rv4, rv5, rv6, rv7, sm0, sm1, bl0, bl1, bl2, bl3, bl4, bl5, bl6, bl7, bl8, List.nil_append, List.cons_append, List.length_cons, List.length_nil, Nat.reduceBEq, Nat.reduceAdd, Nat.reduceSub, ta, tb, tn0, tn1, tn2, tn3, tn4, tn5, tn6, tn7, tn8, tn9, tn10, tn11, tn12]
    refine ⟨fun c => absurd c (lt_go (n := 6) rfl (by omega) hk), fun _ => p_shakeOf (b := 0) (by decide) (hI.RT hT) (hI.RS hS) hh hw hk (fun I2 L2 hI2 hL2 => ?_)⟩
    obtain ⟨e1, e2⟩ := shN_ok T S h w k
    dsimp only [x_int, x_lng, x_ild, x_lld, x_ald, x_ist, x_ast, x_lst, x_inc, x_ii, x_id, x_i, x_ll, x_ld, x_l, x_cmp, x_i2l, x_l2i, x_if, x_ic, x_dup, x_pop, x_dup2, x_gI, x_gL, x_gR, x_g1, x_g0, x_gP, x_pI, x_pZ, x_pL, x_pP, x_al, x_as, x_all, x_asl, x_alr, x_len, x_cpy, x_m2, x_m1, x_m2l, x_m1l, x_call, x_cv, x_ri, x_rz, x_rl, x_rv, zg, zset, zbef, zlong, zcat, cond_true, cond_false, List.take, List.drop, rv1, rv2, rv3, rv4, rv5, rv6, rv7, sm0, sm1, bl0, bl1, bl2, bl3, bl4, bl5, bl6, bl7, bl8, List.nil_append, List.cons_append, List.length_cons, List.length_nil, Nat.reduceBEq, Nat.reduceAdd, Nat.reduceSub, ta, tb, tn0, tn1, tn2, tn3, tn4, tn5, tn6, tn7, tn8, tn9, tn10, tn11, tn12]
    rw [e1, sh_sub _ e2, lN_mul, n_succ k]
    exact hself _ _ ⟨I2, L2, rfl, rfl, fun a b c q => (hI2 a b c q).trans (hI a b c q), fun a b c q1 q2 => (hL2 a b c q1 q2).trans (hL a b c q1 q2)⟩
  · rintro Z M ⟨I', L', rfl, rfl, hI, hL⟩ self
    dsimp only [x_int, x_lng, x_ild, x_lld, x_ald, x_ist, x_ast, x_lst, x_inc, x_ii, x_id, x_i, x_ll, x_ld, x_l, x_cmp, x_i2l, x_l2i, x_if, x_ic, x_dup, x_pop, x_dup2, x_gI, x_gL, x_gR, x_g1, x_g0, x_gP, x_pI, x_pZ, x_pL, x_pP, x_al, x_as, x_all, x_asl, x_alr, x_len, x_cpy, x_m2, x_m1, x_m2l, x_m1l, x_call, x_cv, x_ri, x_rz, x_rl, x_rv, zg, zset, zbef, zlong, zcat, cond_true, cond_false, List.take, List.drop, rv1, rv2, rv3, rv4, rv5, rv6, rv7, sm0, sm1, bl0, bl1, bl2, bl3, bl4, bl5, bl6, bl7, bl8, List.nil_append, List.cons_append, List.length_cons, List.length_nil, Nat.reduceBEq, Nat.reduceAdd, Nat.reduceSub, ta, tb, tn0, tn1, tn2, tn3, tn4, tn5, tn6, tn7, tn8, tn9, tn10, tn11, tn12]
    exact ⟨fun _ => hK I' L' hI hL, fun c => absurd c (lt_out (n := 6) rfl)⟩
-- surest
def sst (T : aT) (S : aS) (h : Nat) : Nat → Option Nat
  | 0 => none
  | w + 1 => match sst T S h w with
    | none => some w
    | some b => if rlN T S h w 6 ≤ rlN T S h b 6 then some b else some w
theorem sst_lt {T : aT} {S : aS} {h : Nat} : ∀ {n b : Nat}, sst T S h n = some b → b < n := by
  intro n
  induction n with
  | zero => intro b e; cases e
  | succ n ih =>
    intro b e
    unfold sst at e
    cases e2 : sst T S h n with
    | none => rw [e2] at e; cases e; omega
    | some c =>
      rw [e2] at e
      dsimp only at e
      have := ih e2
      split at e
      · cases e; omega
      · cases e; omega
def sstL (T : aT) (S : aS) (h : Nat) (d : Int64) (o : Option Nat) : Int64 := match o with
  | none => d
  | some b => lN (rlN T S h b 6)
def v_surest (A : aA) (h : Int32) : Int32 := if okN (A.T.1 0) h then wbI (sst A.T A.S h.toNatClampNeg (A.T.1 1)) else -1
theorem c_surest {K : zQ} {I : zI} {L : zJ} {P : zP} {A : aA} {h : Int32} (hC : RC A I P) (hK : ∀ (L' : zJ), zeL2 L L' → K [.inl (v_surest A h)] (I, L', P)) : mX11_surest K [kbR, .inl h] (I, L, P) := by
  obtain ⟨t, hT, h11, h8, hS⟩ := hC.b
  have h6 := hT.h6
  have w4 := hT.w4
  unfold v_surest at hK
  show bX11_surest_0 K [some (.inr (.inr (11,0))), some (.inl h), none, none, none, none, none, none] [] (I, L, P)
  unfold bX11_surest_0
  dsimp only [x_int, x_lng, x_ild, x_lld, x_ald, x_ist, x_ast, x_lst, x_inc, x_ii, x_id, x_i, x_ll, x_ld, x_l, x_cmp, x_i2l, x_l2i, x_if, x_ic, x_dup, x_pop, x_dup2, x_gI, x_gL, x_gR, x_g1, x_g0, x_gP, x_pI, x_pZ, x_pL, x_pP, x_al, x_as, x_all, x_asl, x_alr, x_len, x_cpy, x_m2, x_m1, x_m2l, x_m1l, x_call, x_cv, x_ri, x_rz, x_rl, x_rv, zg, zset, zbef, zlong, zcat, cond_true, cond_false, List.take, List.drop, rv1, rv2, rv3, rv4, rv5, rv6, rv7, sm0, sm1, bl0, bl1, bl2, bl3, bl4, bl5, bl6, bl7, bl8, List.nil_append, List.cons_append, List.length_cons, List.length_nil, Nat.reduceBEq, Nat.reduceAdd, Nat.reduceSub, ta, tb, tn0, tn1, tn2, tn3, tn4, tn5, tn6, tn7, tn8, tn9, tn10, tn11, tn12]
  refine p_isHandC hT h11 (fun ok => ?_) (fun no => ?_)
  · obtain ⟨x, rfl, hx⟩ := ok_of (by omega) ok
    rw [if_pos ok, n_cl (n := x) (by omega)] at hK
    dsimp only [x_int, x_lng, x_ild, x_lld, x_ald, x_ist, x_ast, x_lst, x_inc, x_ii, x_id, x_i, x_ll, x_ld, x_l, x_cmp, x_i2l, x_l2i, x_if, x_ic, x_dup, x_pop, x_dup2, x_gI, x_gL, x_gR, x_g1, x_g0, x_gP, x_pI, x_pZ, x_pL, x_pP, x_al, x_as, x_all, x_asl, x_alr, x_len, x_cpy, x_m2, x_m1, x_m2l, x_m1l, x_call, x_cv, x_ri, x_rz, x_rl, x_rv, zg, zset, zbef, zlong, zcat, cond_true, cond_false, List.take, List.drop, rv1, rv2, rv3, rv4, rv5, rv6, rv7, sm0, sm1, bl0, bl1, bl2, bl3, bl4, bl5, bl6, bl7, bl8, List.nil_append, List.cons_append, List.length_cons, List.length_nil, Nat.reduceBEq, Nat.reduceAdd, Nat.reduceSub, ta, tb, tn0, tn1, tn2, tn3, tn4, tn5, tn6, tn7, tn8, tn9, tn10, tn11, tn12]
    refine ⟨fun z => absurd z (by decide), fun _ => ?_⟩
    refine zinv (A.T.1 1) (fun w Z M => ∃ (L' : zJ) (z6 z7 : Option zV), Z = [some kbR, some (.inl (nI x)), some (.inl (wbI (sst A.T A.S x w))), some (.inr (.inl (sstL A.T A.S x (-1) (sst A.T A.S x w)))), none, some (.inl (nI w)), z6, z7] ∧ M = (I, L', P) ∧ zeL2 L L') ?_ ?_ ⟨L, none, none, rfl, rfl, zeL2.rf⟩
    · rintro w Z M hw ⟨L', z6, z7, rfl, rfl, hL⟩ self hself
      dsimp only [x_int, x_lng, x_ild, x_lld, x_ald, x_ist, x_ast, x_lst, x_inc, x_ii, x_id, x_i, x_ll, x_ld, x_l, x_cmp, x_i2l, x_l2i, x_if, x_ic, x_dup, x_pop, x_dup2, x_gI, x_gL, x_gR, x_g1, x_g0, x_gP, x_pI, x_pZ, x_pL, x_pP, x_al, x_as, x_all, x_asl, x_alr, x_len, x_cpy, x_m2, x_m1, x_m2l, x_m1l, x_call, x_cv, x_ri, x_rz, x_rl, x_rv, zg, zset, zbef, zlong, zcat, cond_true, cond_false, List.take, List.drop, rv1, rv2, rv3, rv4, rv5, rv6, rv7, sm0, sm1, bl0, bl1, bl2, bl3, bl4, bl5, bl6, bl7, bl8, List.nil_append, List.cons_append, List.length_cons, List.length_nil, Nat.reduceBEq, Nat.reduceAdd, Nat.reduceSub, ta, tb, tn0, tn1, tn2, tn3, tn4, tn5, tn6, tn7, tn8, tn9, tn10, tn11, tn12]
      rw [h11]
      refine ⟨hT.1, fun c => absurd c (lt_go hT.2.1.2.1 (by omega) hw), fun _ => p_rightly h8 hT hS hx hw (fun L2 hL2 => ?_)⟩
      have b6 := rlN_6 A.T A.S x w
      dsimp only [x_int, x_lng, x_ild, x_lld, x_ald, x_ist, x_ast, x_lst, x_inc, x_ii, x_id, x_i, x_ll, x_ld, x_l, x_cmp, x_i2l, x_l2i, x_if, x_ic, x_dup, x_pop, x_dup2, x_gI, x_gL, x_gR, x_g1, x_g0, x_gP, x_pI, x_pZ, x_pL, x_pP, x_al, x_as, x_all, x_asl, x_alr, x_len, x_cpy, x_m2, x_m1, x_m2l, x_m1l, x_call, x_cv, x_ri, x_rz, x_rl, x_rv, zg, zset, zbef, zlong, zcat, cond_true, cond_false, List.take, List.drop, rv1, rv2, rv3, rv4, rv5, rv6, rv7, sm0, sm1, bl0, bl1, bl2, bl3, bl4, bl5, bl6, bl7, bl8, List.nil_append, List.cons_append, List.length_cons, List.length_nil, Nat.reduceBEq, Nat.reduceAdd, Nat.reduceSub, ta, tb, tn0, tn1, tn2, tn3, tn4, tn5, tn6, tn7, tn8, tn9, tn10, tn11, tn12, bX11_surest_57]
      rw [n_succ w]
      simp only [lc_le]
      have es : sst A.T A.S x (w + 1) = (match sst A.T A.S x w with
        | none => some w
        | some b => if rlN A.T A.S x w 6 ≤ rlN A.T A.S x b 6 then some b else some w) := rfl
      refine ⟨fun c => hself _ _ ⟨L2, some (.inr (.inl (lN (rlN A.T A.S x w 6)))), none, ?_, rfl, hL.tr hL2⟩, fun c => hself _ _ ⟨L2, some (.inr (.inl (lN (rlN A.T A.S x w 6)))), none, ?_, rfl, hL.tr hL2⟩⟩
      · cases e : sst A.T A.S x w with
        | none =>
          rw [e] at c
          have c : lN (rlN A.T A.S x w 6) ≤ -1 := c
          rw [Int64.le_iff_toInt_le, l_toInt (by omega)] at c
          have : (-1 : Int64).toInt = -1 := rfl
          omega
        | some b =>
          have b7 := rlN_6 A.T A.S x b
          rw [e] at c es
          have c : lN (rlN A.T A.S x w 6) ≤ lN (rlN A.T A.S x b 6) := c
          rw [l_le (by omega) (by omega)] at c
          dsimp only at es
          rw [es, if_pos c]
      · have e2 : sst A.T A.S x (w + 1) = some w := by
          cases e : sst A.T A.S x w with
          | none => rw [es, e]
          | some b =>
            have b7 := rlN_6 A.T A.S x b
            rw [e] at c es
            have c : ¬ lN (rlN A.T A.S x w 6) ≤ lN (rlN A.T A.S x b 6) := c
            rw [l_le (by omega) (by omega)] at c
            dsimp only at es
            rw [es, if_neg c]
        rw [e2]; rfl
    · rintro Z M ⟨L', z6, z7, rfl, rfl, hL⟩ self
      dsimp only [x_int, x_lng, x_ild, x_lld, x_ald, x_ist, x_ast, x_lst, x_inc, x_ii, x_id, x_i, x_ll, x_ld, x_l, x_cmp, x_i2l, x_l2i, x_if, x_ic, x_dup, x_pop, x_dup2, x_gI, x_gL, x_gR, x_g1, x_g0, x_gP, x_pI, x_pZ, x_pL, x_pP, x_al, x_as, x_all, x_asl, x_alr, x_len, x_cpy, x_m2, x_m1, x_m2l, x_m1l, x_call, x_cv, x_ri, x_rz, x_rl, x_rv, zg, zset, zbef, zlong, zcat, cond_true, cond_false, List.take, List.drop, rv1, rv2, rv3, rv4, rv5, rv6, rv7, sm0, sm1, bl0, bl1, bl2, bl3, bl4, bl5, bl6, bl7, bl8, List.nil_append, List.cons_append, List.length_cons, List.length_nil, Nat.reduceBEq, Nat.reduceAdd, Nat.reduceSub, ta, tb, tn0, tn1, tn2, tn3, tn4, tn5, tn6, tn7, tn8, tn9, tn10, tn11, tn12]
      rw [h11]
      exact ⟨hT.1, fun _ => hK L' hL, fun c => absurd c (lt_out hT.2.1.2.1)⟩
  · have hk := hK L zeL2.rf
    rw [if_neg no] at hk
    exact ⟨fun _ => hk, fun z => absurd rfl z⟩
theorem r_surest {K : zQ} {I : zI} {L : zJ} {P : zP} {A : aA} {h : Int32} (hR : RR A I L) (hK : ∀ (I' : zI) (L' : zJ), frR I I' → zeLr L L' → K [.inl (v_surest A h)] (I', L', P)) : mX12_surest K [refR, .inl h] (I, L, P) := by
  unfold v_surest at hK
  show bX12_surest_0 K [some (.inr (.inr (12,0))), some (.inl h), none, none, none, none, none, none] [] (I, L, P)
  unfold bX12_surest_0
  obtain ⟨I1, e9, hR1, f1⟩ := r_thr P hR
  dsimp only [x_ald, x_int, x_pI, zg, Nat.reduceBEq, cond_true]
  rw [e9]
  have hT := hR1.1
  have hS := hR1.2.1
  have hp := hR1.2.2.1
  have h6 := hT.h6
  have w4 := hT.w4
  dsimp only [x_int, x_lng, x_ild, x_lld, x_ald, x_ist, x_ast, x_lst, x_inc, x_ii, x_id, x_i, x_ll, x_ld, x_l, x_cmp, x_i2l, x_l2i, x_if, x_ic, x_dup, x_pop, x_dup2, x_gI, x_gL, x_gR, x_g1, x_g0, x_gP, x_pI, x_pZ, x_pL, x_pP, x_al, x_as, x_all, x_asl, x_alr, x_len, x_cpy, x_m2, x_m1, x_m2l, x_m1l, x_call, x_cv, x_ri, x_rz, x_rl, x_rv, zg, zset, zbef, zlong, zcat, cond_true, cond_false, List.take, List.drop, rv1, rv2, rv3, rv4, rv5, rv6, rv7, sm0, sm1, bl0, bl1, bl2, bl3, bl4, bl5, bl6, bl7, bl8, List.nil_append, List.cons_append, List.length_cons, List.length_nil, Nat.reduceBEq, Nat.reduceAdd, Nat.reduceSub, ta, tb, tn0, tn1, tn2, tn3, tn4, tn5, tn6, tn7, tn8, tn9, tn10, tn11, tn12]
  refine p_isHandR hT (fun ok => ?_) (fun no => ?_)
  · obtain ⟨x, rfl, hx⟩ := ok_of (by omega) ok
    rw [if_pos ok, n_cl (n := x) (by omega)] at hK
    dsimp only [x_int, x_lng, x_ild, x_lld, x_ald, x_ist, x_ast, x_lst, x_inc, x_ii, x_id, x_i, x_ll, x_ld, x_l, x_cmp, x_i2l, x_l2i, x_if, x_ic, x_dup, x_pop, x_dup2, x_gI, x_gL, x_gR, x_g1, x_g0, x_gP, x_pI, x_pZ, x_pL, x_pP, x_al, x_as, x_all, x_asl, x_alr, x_len, x_cpy, x_m2, x_m1, x_m2l, x_m1l, x_call, x_cv, x_ri, x_rz, x_rl, x_rv, zg, zset, zbef, zlong, zcat, cond_true, cond_false, List.take, List.drop, rv1, rv2, rv3, rv4, rv5, rv6, rv7, sm0, sm1, bl0, bl1, bl2, bl3, bl4, bl5, bl6, bl7, bl8, List.nil_append, List.cons_append, List.length_cons, List.length_nil, Nat.reduceBEq, Nat.reduceAdd, Nat.reduceSub, ta, tb, tn0, tn1, tn2, tn3, tn4, tn5, tn6, tn7, tn8, tn9, tn10, tn11, tn12]
    refine ⟨fun z => absurd z (by decide), fun _ => p_plainTried hp ?_⟩
    dsimp only [x_int, x_lng, x_ild, x_lld, x_ald, x_ist, x_ast, x_lst, x_inc, x_ii, x_id, x_i, x_ll, x_ld, x_l, x_cmp, x_i2l, x_l2i, x_if, x_ic, x_dup, x_pop, x_dup2, x_gI, x_gL, x_gR, x_g1, x_g0, x_gP, x_pI, x_pZ, x_pL, x_pP, x_al, x_as, x_all, x_asl, x_alr, x_len, x_cpy, x_m2, x_m1, x_m2l, x_m1l, x_call, x_cv, x_ri, x_rz, x_rl, x_rv, zg, zset, zbef, zlong, zcat, cond_true, cond_false, List.take, List.drop, rv1, rv2, rv3, rv4, rv5, rv6, rv7, sm0, sm1, bl0, bl1, bl2, bl3, bl4, bl5, bl6, bl7, bl8, List.nil_append, List.cons_append, List.length_cons, List.length_nil, Nat.reduceBEq, Nat.reduceAdd, Nat.reduceSub, ta, tb, tn0, tn1, tn2, tn3, tn4, tn5, tn6, tn7, tn8, tn9, tn10, tn11, tn12]
    refine zinv (A.T.1 1) (fun w Z M => ∃ (I' : zI) (L' : zJ) (z6 z7 : Option zV), Z = [some refR, some (.inl (nI x)), some (.inl (wbI (sst A.T A.S x w))), some (.inr (.inl (sstL A.T A.S x 0 (sst A.T A.S x w)))), none, some (.inl (nI w)), z6, z7] ∧ M = (I', L', P) ∧ frE I1 I' ∧ zeLr L L') ?_ ?_ ⟨I1, L, none, none, rfl, rfl, frE.rf, zeLr.rf⟩
    · rintro w Z M hw ⟨I', L', z6, z7, rfl, rfl, hI, hL⟩ self hself
      dsimp only [x_int, x_lng, x_ild, x_lld, x_ald, x_ist, x_ast, x_lst, x_inc, x_ii, x_id, x_i, x_ll, x_ld, x_l, x_cmp, x_i2l, x_l2i, x_if, x_ic, x_dup, x_pop, x_dup2, x_gI, x_gL, x_gR, x_g1, x_g0, x_gP, x_pI, x_pZ, x_pL, x_pP, x_al, x_as, x_all, x_asl, x_alr, x_len, x_cpy, x_m2, x_m1, x_m2l, x_m1l, x_call, x_cv, x_ri, x_rz, x_rl, x_rv, zg, zset, zbef, zlong, zcat, cond_true, cond_false, List.take, List.drop, rv1, rv2, rv3, rv4, rv5, rv6, rv7, sm0, sm1, bl0, bl1, bl2, bl3, bl4, bl5, bl6, bl7, bl8, List.nil_append, List.cons_append, List.length_cons, List.length_nil, Nat.reduceBEq, Nat.reduceAdd, Nat.reduceSub, ta, tb, tn0, tn1, tn2, tn3, tn4, tn5, tn6, tn7, tn8, tn9, tn10, tn11, tn12]
      refine ⟨fun c => absurd c (lt_go (hI.RT hT).1.2.1 (by omega) hw), fun _ => p_surely (hI.RT hT) (hI.RS hS) hx hw (fun I2 L2 hI2 hL2 => ?_)⟩
      have b6 := rlN_6 A.T A.S x w
      have hI3 : frE I1 I2 := fun a b c q => (hI2 a b c q).trans (hI a b c q)
      have hL3 : zeLr L L2 := fun a b c q1 q2 => (hL2 a b c q1 q2).trans (hL a b c q1 q2)
      dsimp only [x_int, x_lng, x_ild, x_lld, x_ald, x_ist, x_ast, x_lst, x_inc, x_ii, x_id, x_i, x_ll, x_ld, x_l, x_cmp, x_i2l, x_l2i, x_if, x_ic, x_dup, x_pop, x_dup2, x_gI, x_gL, x_gR, x_g1, x_g0, x_gP, x_pI, x_pZ, x_pL, x_pP, x_al, x_as, x_all, x_asl, x_alr, x_len, x_cpy, x_m2, x_m1, x_m2l, x_m1l, x_call, x_cv, x_ri, x_rz, x_rl, x_rv, zg, zset, zbef, zlong, zcat, cond_true, cond_false, List.take, List.drop, rv1, rv2, rv3, rv4, rv5, rv6, rv7, sm0, sm1, bl0, bl1, bl2, bl3, bl4, bl5, bl6, bl7, bl8, List.nil_append, List.cons_append, List.length_cons, List.length_nil, Nat.reduceBEq, Nat.reduceAdd, Nat.reduceSub, ta, tb, tn0, tn1, tn2, tn3, tn4, tn5, tn6, tn7, tn8, tn9, tn10, tn11, tn12, bX12_surest_59, bX12_surest_65]
      rw [n_succ w]
      simp only [lc_gt]
      have es : sst A.T A.S x (w + 1) = (match sst A.T A.S x w with
        | none => some w
        | some b => if rlN A.T A.S x w 6 ≤ rlN A.T A.S x b 6 then some b else some w) := rfl
      cases e : sst A.T A.S x w with
      | none =>
        rw [e] at es
        dsimp only at es
        refine ⟨fun c => hself _ _ ⟨I2, L2, some (.inr (.inl (lN (rlN A.T A.S x w 6)))), none, by rw [es]; rfl, rfl, hI3, hL3⟩, fun c => absurd (by decide) c⟩
      | some b =>
        rw [e] at es
        dsimp only at es
        have hb := sst_lt e
        have b7 := rlN_6 A.T A.S x b
        refine ⟨fun c => ?_, fun c => ⟨fun d => hself _ _ ⟨I2, L2, some (.inr (.inl (lN (rlN A.T A.S x w 6)))), none, ?_, rfl, hI3, hL3⟩, fun d => hself _ _ ⟨I2, L2, some (.inr (.inl (lN (rlN A.T A.S x w 6)))), none, ?_, rfl, hI3, hL3⟩⟩⟩
        · have c : nI b < nI 0 := c
          rw [n_lt (by omega) (by omega)] at c
          omega
        · have d : lN (rlN A.T A.S x b 6) < lN (rlN A.T A.S x w 6) := d
          rw [l_lt (by omega) (by omega)] at d
          rw [es, if_neg (by omega)]; rfl
        · have d : ¬ lN (rlN A.T A.S x b 6) < lN (rlN A.T A.S x w 6) := d
          rw [l_lt (by omega) (by omega)] at d
          rw [es, if_pos (by omega)]
    · rintro Z M ⟨I', L', z6, z7, rfl, rfl, hI, hL⟩ self
      dsimp only [x_int, x_lng, x_ild, x_lld, x_ald, x_ist, x_ast, x_lst, x_inc, x_ii, x_id, x_i, x_ll, x_ld, x_l, x_cmp, x_i2l, x_l2i, x_if, x_ic, x_dup, x_pop, x_dup2, x_gI, x_gL, x_gR, x_g1, x_g0, x_gP, x_pI, x_pZ, x_pL, x_pP, x_al, x_as, x_all, x_asl, x_alr, x_len, x_cpy, x_m2, x_m1, x_m2l, x_m1l, x_call, x_cv, x_ri, x_rz, x_rl, x_rv, zg, zset, zbef, zlong, zcat, cond_true, cond_false, List.take, List.drop, rv1, rv2, rv3, rv4, rv5, rv6, rv7, sm0, sm1, bl0, bl1, bl2, bl3, bl4, bl5, bl6, bl7, bl8, List.nil_append, List.cons_append, List.length_cons, List.length_nil, Nat.reduceBEq, Nat.reduceAdd, Nat.reduceSub, ta, tb, tn0, tn1, tn2, tn3, tn4, tn5, tn6, tn7, tn8, tn9, tn10, tn11, tn12]
      exact ⟨fun _ => hK I' L' (f1.tr (frE_R hI)) hL, fun c => absurd c (lt_out (hI.RT hT).1.2.1)⟩
  · have hk := hK I1 L f1 zeLr.rf
    rw [if_neg no] at hk
    exact ⟨fun _ => hk, fun z => absurd rfl z⟩
-- likely
def SUR : Nat := 1000000000000
theorem p_commonDivisor {K : zQ} {M : zM} {u : Nat} (hu : u ≤ 1000000000000) (hK : K [.inr (.inl (lN (Nat.gcd u 1000000000000)))] M) : mX11_commonDivisor K [.inr (.inl (lN u)), .inr (.inl 1000000000000)] M := by
  show bX11_commonDivisor_9 K [some (.inr (.inl (lN u))), none, some (.inr (.inl 1000000000000)), none, some (.inr (.inl (lN u))), none, some (.inr (.inl 1000000000000)), none, some (.inl 0), none, none] [] M
  refine zinv 100 (fun i Z M' => ∃ (a b : Nat) (z9 : Option zV), Z = [some (.inr (.inl (lN u))), none, some (.inr (.inl 1000000000000)), none, some (.inr (.inl (lN a))), none, some (.inr (.inl (lN b))), none, some (.inl (nI i)), z9, none] ∧ M' = M ∧ Nat.gcd a b = Nat.gcd u 1000000000000 ∧ a ≤ 1000000000000 ∧ b ≤ 1000000000000 ∧ ((i = 0 ∧ 0 < b) ∨ (1 ≤ i ∧ b ≤ a ∧ 0 < a ∧ a * b < 2 ^ (100 - i)))) ?_ ?_ ⟨u, 1000000000000, none, rfl, rfl, rfl, hu, by omega, Or.inl ⟨rfl, by decide⟩⟩
  · rintro i Z M' hi ⟨a, b, z9, rfl, rfl, hg, ha, hb, hor⟩ self hself
    dsimp only [x_int, x_lng, x_ild, x_lld, x_ald, x_ist, x_ast, x_lst, x_inc, x_ii, x_id, x_i, x_ll, x_ld, x_l, x_cmp, x_i2l, x_l2i, x_if, x_ic, x_dup, x_pop, x_dup2, x_gI, x_gL, x_gR, x_g1, x_g0, x_gP, x_pI, x_pZ, x_pL, x_pP, x_al, x_as, x_all, x_asl, x_alr, x_len, x_cpy, x_m2, x_m1, x_m2l, x_m1l, x_call, x_cv, x_ri, x_rz, x_rl, x_rv, zg, zset, zbef, zlong, zcat, cond_true, cond_false, List.take, List.drop, rv1, rv2, rv3, rv4, rv5, rv6, rv7, sm0, sm1, bl0, bl1, bl2, bl3, bl4, bl5, bl6, bl7, bl8, List.nil_append, List.cons_append, List.length_cons, List.length_nil, Nat.reduceBEq, Nat.reduceAdd, Nat.reduceSub, ta, tb, tn0, tn1, tn2, tn3, tn4, tn5, tn6, tn7, tn8, tn9, tn10, tn11, tn12, bX11_commonDivisor_44]
    simp only [lc_eq]
    refine ⟨fun c => absurd c (lt_go (n := 100) rfl (by omega) hi), fun _ => ⟨fun c => ?_, fun c => ⟨c, ?_⟩⟩⟩
    · have c : lN b = lN 0 := c
      rw [l_eq (by omega) (by omega)] at c
      rw [c, Nat.gcd_zero_right] at hg
      rw [hg]; exact hK
    · have c : ¬ b = 0 := fun q => c (by rw [q]; rfl)
      have hml : a % b < b := Nat.mod_lt _ (by omega)
      rw [pk_lRem (by omega) (by omega) (by omega), n_succ i]
      refine hself _ _ ⟨b, a % b, some (.inr (.inl (lN (a % b)))), rfl, rfl, ?_, hb, by omega, Or.inr ⟨by omega, by omega, by omega, ?_⟩⟩
      · rw [← hg, Nat.gcd_comm a b, Nat.gcd_rec b a, Nat.gcd_comm]
      · rcases hor with ⟨h0, -⟩ | ⟨h1, h2, h3, h4⟩
        · subst h0
          have : b * (a % b) ≤ 1000000000000 * 1000000000000 := Nat.mul_le_mul hb (by omega)
          exact Nat.lt_of_le_of_lt this (by decide)
        · have e : 2 ^ (100 - i) = 2 * 2 ^ (100 - (i + 1)) := by
            rw [show 100 - i = (100 - (i + 1)) + 1 by omega, Nat.pow_succ]; omega
          have q1 : b + a % b ≤ a := by
            have h5 := Nat.div_add_mod a b
            have h6 : 1 ≤ a / b := Nat.div_pos h2 (by omega)
            have h7 : b * 1 ≤ b * (a / b) := Nat.mul_le_mul_left b h6
            omega
          have q2 : b * (b + a % b) ≤ b * a := Nat.mul_le_mul_left b q1
          have q3 : b * (a % b) ≤ b * b := Nat.mul_le_mul_left b (by omega)
          rw [Nat.mul_add] at q2
          rw [Nat.mul_comm a b] at h4
          omega
  · rintro Z M' ⟨a, b, z9, rfl, rfl, hg, ha, hb, hor⟩ self
    dsimp only [x_int, x_lng, x_ild, x_lld, x_ald, x_ist, x_ast, x_lst, x_inc, x_ii, x_id, x_i, x_ll, x_ld, x_l, x_cmp, x_i2l, x_l2i, x_if, x_ic, x_dup, x_pop, x_dup2, x_gI, x_gL, x_gR, x_g1, x_g0, x_gP, x_pI, x_pZ, x_pL, x_pP, x_al, x_as, x_all, x_asl, x_alr, x_len, x_cpy, x_m2, x_m1, x_m2l, x_m1l, x_call, x_cv, x_ri, x_rz, x_rl, x_rv, zg, zset, zbef, zlong, zcat, cond_true, cond_false, List.take, List.drop, rv1, rv2, rv3, rv4, rv5, rv6, rv7, sm0, sm1, bl0, bl1, bl2, bl3, bl4, bl5, bl6, bl7, bl8, List.nil_append, List.cons_append, List.length_cons, List.length_nil, Nat.reduceBEq, Nat.reduceAdd, Nat.reduceSub, ta, tb, tn0, tn1, tn2, tn3, tn4, tn5, tn6, tn7, tn8, tn9, tn10, tn11, tn12, bX11_commonDivisor_44]
    refine ⟨fun _ => ?_, fun c => absurd c (lt_out (n := 100) rfl)⟩
    have : b = 0 := by
      rcases hor with ⟨h0, -⟩ | ⟨h1, h2, h3, h4⟩
      · omega
      · rw [show 100 - 100 = 0 from rfl, Nat.pow_zero] at h4
        have := (Nat.mul_eq_zero.mp (show a * b = 0 by omega))
        omega
    rw [this, Nat.gcd_zero_right] at hg
    rw [hg]; exact hK
def v_likely (A : aA) (h w q : Int32) : Int64 := if okN (A.T.1 0) h then (if okN (A.T.1 1) w then (if okI q 0 1 then (if q = 0 then lN (rlN A.T A.S h.toNatClampNeg w.toNatClampNeg 6 / Nat.gcd (rlN A.T A.S h.toNatClampNeg w.toNatClampNeg 6) 1000000000000) else lN (1000000000000 / Nat.gcd (rlN A.T A.S h.toNatClampNeg w.toNatClampNeg 6) 1000000000000)) else -1) else -1) else -1
theorem gcd_S {u : Nat} : 0 < Nat.gcd u 1000000000000 ∧ Nat.gcd u 1000000000000 ≤ 1000000000000 := ⟨Nat.gcd_pos_of_pos_right _ (by decide), Nat.le_of_dvd (by decide) (Nat.gcd_dvd_right _ _)⟩
theorem c_likely {K : zQ} {I : zI} {L : zJ} {P : zP} {A : aA} {h w q : Int32} (hC : RC A I P) (hK : ∀ (L' : zJ), zeL2 L L' → K [.inr (.inl (v_likely A h w q))] (I, L', P)) : mX11_likely K [kbR, .inl h, .inl w, .inl q] (I, L, P) := by
  obtain ⟨t, hT, h11, h8, hS⟩ := hC.b
  have h6 := hT.h6
  have w4 := hT.w4
  unfold v_likely at hK
  show bX11_likely_0 K [some (.inr (.inr (11,0))), some (.inl h), some (.inl w), some (.inl q), none, none, none, none] [] (I, L, P)
  unfold bX11_likely_0
  dsimp only [x_int, x_lng, x_ild, x_lld, x_ald, x_ist, x_ast, x_lst, x_inc, x_ii, x_id, x_i, x_ll, x_ld, x_l, x_cmp, x_i2l, x_l2i, x_if, x_ic, x_dup, x_pop, x_dup2, x_gI, x_gL, x_gR, x_g1, x_g0, x_gP, x_pI, x_pZ, x_pL, x_pP, x_al, x_as, x_all, x_asl, x_alr, x_len, x_cpy, x_m2, x_m1, x_m2l, x_m1l, x_call, x_cv, x_ri, x_rz, x_rl, x_rv, zg, zset, zbef, zlong, zcat, cond_true, cond_false, List.take, List.drop, rv1, rv2, rv3, rv4, rv5, rv6, rv7, sm0, sm1, bl0, bl1, bl2, bl3, bl4, bl5, bl6, bl7, bl8, List.nil_append, List.cons_append, List.length_cons, List.length_nil, Nat.reduceBEq, Nat.reduceAdd, Nat.reduceSub, ta, tb, tn0, tn1, tn2, tn3, tn4, tn5, tn6, tn7, tn8, tn9, tn10, tn11, tn12]
  refine p_isHandC hT h11 (fun ok => ?_) (fun no => ?_)
  · dsimp only [x_int, x_lng, x_ild, x_lld, x_ald, x_ist, x_ast, x_lst, x_inc, x_ii, x_id, x_i, x_ll, x_ld, x_l, x_cmp, x_i2l, x_l2i, x_if, x_ic, x_dup, x_pop, x_dup2, x_gI, x_gL, x_gR, x_g1, x_g0, x_gP, x_pI, x_pZ, x_pL, x_pP, x_al, x_as, x_all, x_asl, x_alr, x_len, x_cpy, x_m2, x_m1, x_m2l, x_m1l, x_call, x_cv, x_ri, x_rz, x_rl, x_rv, zg, zset, zbef, zlong, zcat, cond_true, cond_false, List.take, List.drop, rv1, rv2, rv3, rv4, rv5, rv6, rv7, sm0, sm1, bl0, bl1, bl2, bl3, bl4, bl5, bl6, bl7, bl8, List.nil_append, List.cons_append, List.length_cons, List.length_nil, Nat.reduceBEq, Nat.reduceAdd, Nat.reduceSub, ta, tb, tn0, tn1, tn2, tn3, tn4, tn5, tn6, tn7, tn8, tn9, tn10, tn11, tn12]
    refine ⟨fun z => absurd z (by decide), fun _ => p_isWoodC hT h11 (fun ok2 => ?_) (fun no => ?_)⟩
    · obtain ⟨x, rfl, hx⟩ := ok_of (by omega) ok
      obtain ⟨y, rfl, hy⟩ := ok_of (by omega) ok2
      rw [if_pos ok, if_pos ok2, n_cl (n := x) (by omega), n_cl (n := y) (by omega)] at hK
      dsimp only [x_int, x_lng, x_ild, x_lld, x_ald, x_ist, x_ast, x_lst, x_inc, x_ii, x_id, x_i, x_ll, x_ld, x_l, x_cmp, x_i2l, x_l2i, x_if, x_ic, x_dup, x_pop, x_dup2, x_gI, x_gL, x_gR, x_g1, x_g0, x_gP, x_pI, x_pZ, x_pL, x_pP, x_al, x_as, x_all, x_asl, x_alr, x_len, x_cpy, x_m2, x_m1, x_m2l, x_m1l, x_call, x_cv, x_ri, x_rz, x_rl, x_rv, zg, zset, zbef, zlong, zcat, cond_true, cond_false, List.take, List.drop, rv1, rv2, rv3, rv4, rv5, rv6, rv7, sm0, sm1, bl0, bl1, bl2, bl3, bl4, bl5, bl6, bl7, bl8, List.nil_append, List.cons_append, List.length_cons, List.length_nil, Nat.reduceBEq, Nat.reduceAdd, Nat.reduceSub, ta, tb, tn0, tn1, tn2, tn3, tn4, tn5, tn6, tn7, tn8, tn9, tn10, tn11, tn12, bX11_likely_25]
      refine ⟨fun z => absurd z (by decide), fun _ => ⟨fun c => ?_, fun c => ⟨fun d => ?_, fun d => ?_⟩⟩⟩
      · have hk := hK L zeL2.rf
        rw [if_neg (fun z => Int32.not_lt.mpr z.1 c)] at hk; exact hk
      · rw [if_pos ⟨Int32.not_lt.mp c, d⟩] at hK
        refine p_rightly h8 hT hS hx hy (fun L2 hL2 => ?_)
        have hk := hK L2 hL2
        have b6 := rlN_6 A.T A.S x y
        generalize rlN A.T A.S x y 6 = u at hk b6 ⊢
        dsimp only [x_int, x_lng, x_ild, x_lld, x_ald, x_ist, x_ast, x_lst, x_inc, x_ii, x_id, x_i, x_ll, x_ld, x_l, x_cmp, x_i2l, x_l2i, x_if, x_ic, x_dup, x_pop, x_dup2, x_gI, x_gL, x_gR, x_g1, x_g0, x_gP, x_pI, x_pZ, x_pL, x_pP, x_al, x_as, x_all, x_asl, x_alr, x_len, x_cpy, x_m2, x_m1, x_m2l, x_m1l, x_call, x_cv, x_ri, x_rz, x_rl, x_rv, zg, zset, zbef, zlong, zcat, cond_true, cond_false, List.take, List.drop, rv1, rv2, rv3, rv4, rv5, rv6, rv7, sm0, sm1, bl0, bl1, bl2, bl3, bl4, bl5, bl6, bl7, bl8, List.nil_append, List.cons_append, List.length_cons, List.length_nil, Nat.reduceBEq, Nat.reduceAdd, Nat.reduceSub, ta, tb, tn0, tn1, tn2, tn3, tn4, tn5, tn6, tn7, tn8, tn9, tn10, tn11, tn12]
        refine p_commonDivisor b6 ?_
        obtain ⟨g1, g2⟩ := gcd_S (u := u)
        dsimp only [x_int, x_lng, x_ild, x_lld, x_ald, x_ist, x_ast, x_lst, x_inc, x_ii, x_id, x_i, x_ll, x_ld, x_l, x_cmp, x_i2l, x_l2i, x_if, x_ic, x_dup, x_pop, x_dup2, x_gI, x_gL, x_gR, x_g1, x_g0, x_gP, x_pI, x_pZ, x_pL, x_pP, x_al, x_as, x_all, x_asl, x_alr, x_len, x_cpy, x_m2, x_m1, x_m2l, x_m1l, x_call, x_cv, x_ri, x_rz, x_rl, x_rv, zg, zset, zbef, zlong, zcat, cond_true, cond_false, List.take, List.drop, rv1, rv2, rv3, rv4, rv5, rv6, rv7, sm0, sm1, bl0, bl1, bl2, bl3, bl4, bl5, bl6, bl7, bl8, List.nil_append, List.cons_append, List.length_cons, List.length_nil, Nat.reduceBEq, Nat.reduceAdd, Nat.reduceSub, ta, tb, tn0, tn1, tn2, tn3, tn4, tn5, tn6, tn7, tn8, tn9, tn10, tn11, tn12, bX11_likely_73]
        simp only [lc_eq]
        have nz : ¬ lN (Nat.gcd u 1000000000000) = 0 := fun e => by
          have e : lN (Nat.gcd u 1000000000000) = lN 0 := e
          rw [l_eq (by omega) (by omega)] at e
          omega
        refine ⟨fun e => absurd e nz, fun _ => ⟨fun e => ⟨nz, ?_⟩, fun e => ⟨nz, ?_⟩⟩⟩
        · rw [if_pos e] at hk
          rw [pk_lDiv (by omega) g1 (by omega)]; exact hk
        · rw [if_neg e] at hk
          rw [show (1000000000000 : Int64) = lN 1000000000000 from rfl, pk_lDiv (by omega) g1 (by omega)]; exact hk
      · have hk := hK L zeL2.rf
        rw [if_neg (fun z => d z.2)] at hk; exact hk
    · have hk := hK L zeL2.rf
      rw [if_pos ok, if_neg no] at hk
      exact ⟨fun _ => hk, fun z => absurd rfl z⟩
  · have hk := hK L zeL2.rf
    rw [if_neg no] at hk
    exact ⟨fun _ => hk, fun z => absurd rfl z⟩
theorem r_likely {K : zQ} {I : zI} {L : zJ} {P : zP} {A : aA} {h w q : Int32} (hR : RR A I L) (hK : ∀ (I' : zI) (L' : zJ), frR I I' → zeLr L L' → K [.inr (.inl (v_likely A h w q))] (I', L', P)) : mX12_likely K [refR, .inl h, .inl w, .inl q] (I, L, P) := by
  unfold v_likely at hK
  show bX12_likely_0 K [some (.inr (.inr (12,0))), some (.inl h), some (.inl w), some (.inl q), none, none, none, none, none, none, none, none, none, none] [] (I, L, P)
  unfold bX12_likely_0
  obtain ⟨I1, e9, hR1, f1⟩ := r_thr P hR
  dsimp only [x_ald, x_int, x_pI, zg, Nat.reduceBEq, cond_true]
  rw [e9]
  have hT := hR1.1
  have hS := hR1.2.1
  have hp := hR1.2.2.1
  have h6 := hT.h6
  have w4 := hT.w4
  dsimp only [x_int, x_lng, x_ild, x_lld, x_ald, x_ist, x_ast, x_lst, x_inc, x_ii, x_id, x_i, x_ll, x_ld, x_l, x_cmp, x_i2l, x_l2i, x_if, x_ic, x_dup, x_pop, x_dup2, x_gI, x_gL, x_gR, x_g1, x_g0, x_gP, x_pI, x_pZ, x_pL, x_pP, x_al, x_as, x_all, x_asl, x_alr, x_len, x_cpy, x_m2, x_m1, x_m2l, x_m1l, x_call, x_cv, x_ri, x_rz, x_rl, x_rv, zg, zset, zbef, zlong, zcat, cond_true, cond_false, List.take, List.drop, rv1, rv2, rv3, rv4, rv5, rv6, rv7, sm0, sm1, bl0, bl1, bl2, bl3, bl4, bl5, bl6, bl7, bl8, List.nil_append, List.cons_append, List.length_cons, List.length_nil, Nat.reduceBEq, Nat.reduceAdd, Nat.reduceSub, ta, tb, tn0, tn1, tn2, tn3, tn4, tn5, tn6, tn7, tn8, tn9, tn10, tn11, tn12]
  refine p_isHandR hT (fun ok => ?_) (fun no => ?_)
  · dsimp only [x_int, x_lng, x_ild, x_lld, x_ald, x_ist, x_ast, x_lst, x_inc, x_ii, x_id, x_i, x_ll, x_ld, x_l, x_cmp, x_i2l, x_l2i, x_if, x_ic, x_dup, x_pop, x_dup2, x_gI, x_gL, x_gR, x_g1, x_g0, x_gP, x_pI, x_pZ, x_pL, x_pP, x_al, x_as, x_all, x_asl, x_alr, x_len, x_cpy, x_m2, x_m1, x_m2l, x_m1l, x_call, x_cv, x_ri, x_rz, x_rl, x_rv, zg, zset, zbef, zlong, zcat, cond_true, cond_false, List.take, List.drop, rv1, rv2, rv3, rv4, rv5, rv6, rv7, sm0, sm1, bl0, bl1, bl2, bl3, bl4, bl5, bl6, bl7, bl8, List.nil_append, List.cons_append, List.length_cons, List.length_nil, Nat.reduceBEq, Nat.reduceAdd, Nat.reduceSub, ta, tb, tn0, tn1, tn2, tn3, tn4, tn5, tn6, tn7, tn8, tn9, tn10, tn11, tn12]
    refine ⟨fun z => absurd z (by decide), fun _ => p_isWoodR hT (fun ok2 => ?_) (fun no => ?_)⟩
    · obtain ⟨x, rfl, hx⟩ := ok_of (by omega) ok
      obtain ⟨y, rfl, hy⟩ := ok_of (by omega) ok2
      rw [if_pos ok, if_pos ok2, n_cl (n := x) (by omega), n_cl (n := y) (by omega)] at hK
      dsimp only [x_int, x_lng, x_ild, x_lld, x_ald, x_ist, x_ast, x_lst, x_inc, x_ii, x_id, x_i, x_ll, x_ld, x_l, x_cmp, x_i2l, x_l2i, x_if, x_ic, x_dup, x_pop, x_dup2, x_gI, x_gL, x_gR, x_g1, x_g0, x_gP, x_pI, x_pZ, x_pL, x_pP, x_al, x_as, x_all, x_asl, x_alr, x_len, x_cpy, x_m2, x_m1, x_m2l, x_m1l, x_call, x_cv, x_ri, x_rz, x_rl, x_rv, zg, zset, zbef, zlong, zcat, cond_true, cond_false, List.take, List.drop, rv1, rv2, rv3, rv4, rv5, rv6, rv7, sm0, sm1, bl0, bl1, bl2, bl3, bl4, bl5, bl6, bl7, bl8, List.nil_append, List.cons_append, List.length_cons, List.length_nil, Nat.reduceBEq, Nat.reduceAdd, Nat.reduceSub, ta, tb, tn0, tn1, tn2, tn3, tn4, tn5, tn6, tn7, tn8, tn9, tn10, tn11, tn12]
      refine ⟨fun z => absurd z (by decide), fun _ => p_isIn (fun ok3 => ?_) (fun no => ?_)⟩
      · rw [if_pos ok3] at hK
        dsimp only [x_int, x_lng, x_ild, x_lld, x_ald, x_ist, x_ast, x_lst, x_inc, x_ii, x_id, x_i, x_ll, x_ld, x_l, x_cmp, x_i2l, x_l2i, x_if, x_ic, x_dup, x_pop, x_dup2, x_gI, x_gL, x_gR, x_g1, x_g0, x_gP, x_pI, x_pZ, x_pL, x_pP, x_al, x_as, x_all, x_asl, x_alr, x_len, x_cpy, x_m2, x_m1, x_m2l, x_m1l, x_call, x_cv, x_ri, x_rz, x_rl, x_rv, zg, zset, zbef, zlong, zcat, cond_true, cond_false, List.take, List.drop, rv1, rv2, rv3, rv4, rv5, rv6, rv7, sm0, sm1, bl0, bl1, bl2, bl3, bl4, bl5, bl6, bl7, bl8, List.nil_append, List.cons_append, List.length_cons, List.length_nil, Nat.reduceBEq, Nat.reduceAdd, Nat.reduceSub, ta, tb, tn0, tn1, tn2, tn3, tn4, tn5, tn6, tn7, tn8, tn9, tn10, tn11, tn12]
        refine ⟨fun z => absurd z (by decide), fun _ => p_plainTried hp ?_⟩
        dsimp only [x_int, x_lng, x_ild, x_lld, x_ald, x_ist, x_ast, x_lst, x_inc, x_ii, x_id, x_i, x_ll, x_ld, x_l, x_cmp, x_i2l, x_l2i, x_if, x_ic, x_dup, x_pop, x_dup2, x_gI, x_gL, x_gR, x_g1, x_g0, x_gP, x_pI, x_pZ, x_pL, x_pP, x_al, x_as, x_all, x_asl, x_alr, x_len, x_cpy, x_m2, x_m1, x_m2l, x_m1l, x_call, x_cv, x_ri, x_rz, x_rl, x_rv, zg, zset, zbef, zlong, zcat, cond_true, cond_false, List.take, List.drop, rv1, rv2, rv3, rv4, rv5, rv6, rv7, sm0, sm1, bl0, bl1, bl2, bl3, bl4, bl5, bl6, bl7, bl8, List.nil_append, List.cons_append, List.length_cons, List.length_nil, Nat.reduceBEq, Nat.reduceAdd, Nat.reduceSub, ta, tb, tn0, tn1, tn2, tn3, tn4, tn5, tn6, tn7, tn8, tn9, tn10, tn11, tn12]
        refine p_surely hT hS hx hy (fun I2 L2 hI2 hL2 => ?_)
        have hk := hK I2 L2 (f1.tr (frE_R hI2)) hL2
        have b6 := rlN_6 A.T A.S x y
        generalize rlN A.T A.S x y 6 = u at hk b6 ⊢
        dsimp only [x_int, x_lng, x_ild, x_lld, x_ald, x_ist, x_ast, x_lst, x_inc, x_ii, x_id, x_i, x_ll, x_ld, x_l, x_cmp, x_i2l, x_l2i, x_if, x_ic, x_dup, x_pop, x_dup2, x_gI, x_gL, x_gR, x_g1, x_g0, x_gP, x_pI, x_pZ, x_pL, x_pP, x_al, x_as, x_all, x_asl, x_alr, x_len, x_cpy, x_m2, x_m1, x_m2l, x_m1l, x_call, x_cv, x_ri, x_rz, x_rl, x_rv, zg, zset, zbef, zlong, zcat, cond_true, cond_false, List.take, List.drop, rv1, rv2, rv3, rv4, rv5, rv6, rv7, sm0, sm1, bl0, bl1, bl2, bl3, bl4, bl5, bl6, bl7, bl8, List.nil_append, List.cons_append, List.length_cons, List.length_nil, Nat.reduceBEq, Nat.reduceAdd, Nat.reduceSub, ta, tb, tn0, tn1, tn2, tn3, tn4, tn5, tn6, tn7, tn8, tn9, tn10, tn11, tn12]
        refine zmea (fun n Z M => ∃ (a : Nat) (z12 : Option zV), Z = [some refR, some (.inl (nI x)), some (.inl (nI y)), some (.inl q), some (.inr (.inl (lN u))), none, some (.inr (.inl 1000000000000)), none, some (.inr (.inl (lN a))), none, some (.inr (.inl (lN n))), none, z12, none] ∧ M = (I2, L2, P) ∧ 0 < a ∧ a ≤ 1000000000000 ∧ n ≤ 1000000000000 ∧ Nat.gcd a n = Nat.gcd u 1000000000000) ?_ u ⟨1000000000000, none, rfl, rfl, by decide, by decide, b6, Nat.gcd_comm _ _⟩
        rintro n Z M ⟨a, z12, rfl, rfl, a0, a1, hn, hg⟩ self hself
        dsimp only [x_int, x_lng, x_ild, x_lld, x_ald, x_ist, x_ast, x_lst, x_inc, x_ii, x_id, x_i, x_ll, x_ld, x_l, x_cmp, x_i2l, x_l2i, x_if, x_ic, x_dup, x_pop, x_dup2, x_gI, x_gL, x_gR, x_g1, x_g0, x_gP, x_pI, x_pZ, x_pL, x_pP, x_al, x_as, x_all, x_asl, x_alr, x_len, x_cpy, x_m2, x_m1, x_m2l, x_m1l, x_call, x_cv, x_ri, x_rz, x_rl, x_rv, zg, zset, zbef, zlong, zcat, cond_true, cond_false, List.take, List.drop, rv1, rv2, rv3, rv4, rv5, rv6, rv7, sm0, sm1, bl0, bl1, bl2, bl3, bl4, bl5, bl6, bl7, bl8, List.nil_append, List.cons_append, List.length_cons, List.length_nil, Nat.reduceBEq, Nat.reduceAdd, Nat.reduceSub, ta, tb, tn0, tn1, tn2, tn3, tn4, tn5, tn6, tn7, tn8, tn9, tn10, tn11, tn12, bX12_likely_101]
        simp only [lc_eq]
        refine ⟨fun c => ?_, fun c => ⟨c, ?_⟩⟩
        · have c : lN n = lN 0 := c
          rw [l_eq (by omega) (by omega)] at c
          rw [c, Nat.gcd_zero_right] at hg
          have nz : ¬ lN a = 0 := fun e => by
            have e : lN a = lN 0 := e
            rw [l_eq (by omega) (by omega)] at e
            omega
          rw [← hg] at hk
          refine ⟨fun e => ⟨nz, ?_⟩, fun e => ⟨nz, ?_⟩⟩
          · rw [if_pos e] at hk
            rw [pk_lDiv (by omega) a0 (by omega)]; exact hk
          · rw [if_neg e] at hk
            rw [show (1000000000000 : Int64) = lN 1000000000000 from rfl, pk_lDiv (by omega) a0 (by omega)]; exact hk
        · have c : ¬ n = 0 := fun q => c (by rw [q]; rfl)
          have hml : a % n < n := Nat.mod_lt _ (by omega)
          rw [pk_lRem (by omega) (by omega) (by omega)]
          refine hself (a % n) _ _ hml ⟨n, some (.inr (.inl (lN (a % n)))), rfl, rfl, by omega, hn, by omega, ?_⟩
          rw [← hg, Nat.gcd_comm a n, Nat.gcd_rec n a, Nat.gcd_comm]
      · have hk := hK I1 L f1 zeLr.rf
        rw [if_neg no] at hk
        exact ⟨fun _ => hk, fun z => absurd rfl z⟩
    · have hk := hK I1 L f1 zeLr.rf
      rw [if_pos ok, if_neg no] at hk
      exact ⟨fun _ => hk, fun z => absurd rfl z⟩
  · have hk := hK I1 L f1 zeLr.rf
    rw [if_neg no] at hk
    exact ⟨fun _ => hk, fun z => absurd rfl z⟩
