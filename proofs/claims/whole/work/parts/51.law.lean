theorem p_worth {K : zQ} {I : zI} {L : zJ} {P : zP} {j t : Nat} {T : aT} {S : aS} {q h w : Nat} {b p : Int32} (ht : P 8 j 0 = t) (hT : CT I t T) (hS : CS I j T S) (hq : q < 3) (hh : h < T.1 0) (hw : w < T.1 1) (hK : ∀ L' : zJ, zeL2 L L' → K [.inr (.inl (lev (anm S h w b p) (T.2.2 q) []))] (I, L', P)) : mX8_worth K [.inr (.inr (8, j)), .inl (nI q), .inl (nI h), .inl (nI w), .inl b, .inl p] (I, L, P) := by
  have h6 := hT.h6
  have w4 := hT.w4
  obtain ⟨g1, g2, g3⟩ := hT.law (i := q) hq
  show bX8_worth_0 K [some (.inr (.inr (8,j))), some (.inl (nI q)), some (.inl (nI h)), some (.inl (nI w)), some (.inl b), some (.inl p)] [] (I, L, P)
  unfold bX8_worth_0
  dsimp only [x_int, x_lng, x_ild, x_lld, x_ald, x_ist, x_ast, x_lst, x_inc, x_ii, x_id, x_i, x_ll, x_ld, x_l, x_cmp, x_i2l, x_l2i, x_if, x_ic, x_dup, x_pop, x_dup2, x_gI, x_gL, x_gR, x_g1, x_g0, x_gP, x_pI, x_pZ, x_pL, x_pP, x_al, x_as, x_all, x_asl, x_alr, x_len, x_cpy, x_m2, x_m1, x_m2l, x_m1l, x_call, x_cv, x_ri, x_rz, x_rl, x_rv, zg, zset, zbef, zlong, zcat, cond_true, cond_false, List.take, List.drop, rv1, rv2, rv3, rv4, rv5, rv6, rv7, sm0, sm1, bl0, bl1, bl2, bl3, bl4, bl5, bl6, bl7, bl8, List.nil_append, List.cons_append, List.length_cons, List.length_nil, Nat.reduceBEq, Nat.reduceAdd, Nat.reduceSub, ta, tb, tn0, tn1, tn2, tn3, tn4, tn5, tn6, tn7, tn8, tn9, tn10, tn11, tn12]
  refine p_setNames (by omega) (by omega) (fun L1 e1 n1 => ?_)
  rw [nmv_scene hS hh hw] at n1
  dsimp only [x_int, x_lng, x_ild, x_lld, x_ald, x_ist, x_ast, x_lst, x_inc, x_ii, x_id, x_i, x_ll, x_ld, x_l, x_cmp, x_i2l, x_l2i, x_if, x_ic, x_dup, x_pop, x_dup2, x_gI, x_gL, x_gR, x_g1, x_g0, x_gP, x_pI, x_pZ, x_pL, x_pP, x_al, x_as, x_all, x_asl, x_alr, x_len, x_cpy, x_m2, x_m1, x_m2l, x_m1l, x_call, x_cv, x_ri, x_rz, x_rl, x_rv, zg, zset, zbef, zlong, zcat, cond_true, cond_false, List.take, List.drop, rv1, rv2, rv3, rv4, rv5, rv6, rv7, sm0, sm1, bl0, bl1, bl2, bl3, bl4, bl5, bl6, bl7, bl8, List.nil_append, List.cons_append, List.length_cons, List.length_nil, Nat.reduceBEq, Nat.reduceAdd, Nat.reduceSub, ta, tb, tn0, tn1, tn2, tn3, tn4, tn5, tn6, tn7, tn8, tn9, tn10, tn11, tn12, zl_46]
  rw [ht, n_cl (n := q) (by omega)]
  refine ⟨hT.1, n_zin hq (by decide), p_value g1 g2 g3 n1 (fun L2 e2 => ?_)⟩
  dsimp only [x_int, x_lng, x_ild, x_lld, x_ald, x_ist, x_ast, x_lst, x_inc, x_ii, x_id, x_i, x_ll, x_ld, x_l, x_cmp, x_i2l, x_l2i, x_if, x_ic, x_dup, x_pop, x_dup2, x_gI, x_gL, x_gR, x_g1, x_g0, x_gP, x_pI, x_pZ, x_pL, x_pP, x_al, x_as, x_all, x_asl, x_alr, x_len, x_cpy, x_m2, x_m1, x_m2l, x_m1l, x_call, x_cv, x_ri, x_rz, x_rl, x_rv, zg, zset, zbef, zlong, zcat, cond_true, cond_false, List.take, List.drop, rv1, rv2, rv3, rv4, rv5, rv6, rv7, sm0, sm1, bl0, bl1, bl2, bl3, bl4, bl5, bl6, bl7, bl8, List.nil_append, List.cons_append, List.length_cons, List.length_nil, Nat.reduceBEq, Nat.reduceAdd, Nat.reduceSub, ta, tb, tn0, tn1, tn2, tn3, tn4, tn5, tn6, tn7, tn8, tn9, tn10, tn11, tn12]
  exact hK L2 (fun a b c q1 q2 => (e2 a b c q1).trans (e1 a b c q2))
def v_law (A : aA) (q h w k : Int32) : Int64 := if okN (A.T.1 0) h then (if okN (A.T.1 1) w then
  (if q = 0 then (if okN 6 k then lev (anm A.S h.toNatClampNeg w.toNatClampNeg (A.T.2.1 3 (6 * h.toNatClampNeg + k.toNatClampNeg)) k) (A.T.2.2 0) [] else zER)
  else if q = 1 then (if okI k 0 30 then lev (anm A.S h.toNatClampNeg w.toNatClampNeg k 0) (A.T.2.2 1) [] else zER)
  else if q = 2 then lev (anm A.S h.toNatClampNeg w.toNatClampNeg 0 0) (A.T.2.2 2) [] else zER) else zER) else zER
theorem c_law {K : zQ} {I : zI} {L : zJ} {P : zP} {A : aA} {q h w k : Int32} (hC : RC A I P) (hK : ∀ L' : zJ, zeL2 L L' → K [.inr (.inl (v_law A q h w k))] (I, L', P)) : mX11_law K [kbR, .inl q, .inl h, .inl w, .inl k] (I, L, P) := by
  obtain ⟨t, hT, h11, h8, hS⟩ := hC.b
  have h6 := hT.h6
  have w4 := hT.w4
  unfold v_law at hK
  show bX11_law_0 K [some (.inr (.inr (11,0))), some (.inl q), some (.inl h), some (.inl w), some (.inl k)] [] (I, L, P)
  unfold bX11_law_0
  dsimp only [x_int, x_lng, x_ild, x_lld, x_ald, x_ist, x_ast, x_lst, x_inc, x_ii, x_id, x_i, x_ll, x_ld, x_l, x_cmp, x_i2l, x_l2i, x_if, x_ic, x_dup, x_pop, x_dup2, x_gI, x_gL, x_gR, x_g1, x_g0, x_gP, x_pI, x_pZ, x_pL, x_pP, x_al, x_as, x_all, x_asl, x_alr, x_len, x_cpy, x_m2, x_m1, x_m2l, x_m1l, x_call, x_cv, x_ri, x_rz, x_rl, x_rv, zg, zset, zbef, zlong, zcat, cond_true, cond_false, List.take, List.drop, rv1, rv2, rv3, rv4, rv5, rv6, rv7, sm0, sm1, bl0, bl1, bl2, bl3, bl4, bl5, bl6, bl7, bl8, List.nil_append, List.cons_append, List.length_cons, List.length_nil, Nat.reduceBEq, Nat.reduceAdd, Nat.reduceSub, ta, tb, tn0, tn1, tn2, tn3, tn4, tn5, tn6, tn7, tn8, tn9, tn10, tn11, tn12]
  refine p_isHandC hT h11 (fun ok => ?_) (fun no => ?_)
  · dsimp only [x_int, x_lng, x_ild, x_lld, x_ald, x_ist, x_ast, x_lst, x_inc, x_ii, x_id, x_i, x_ll, x_ld, x_l, x_cmp, x_i2l, x_l2i, x_if, x_ic, x_dup, x_pop, x_dup2, x_gI, x_gL, x_gR, x_g1, x_g0, x_gP, x_pI, x_pZ, x_pL, x_pP, x_al, x_as, x_all, x_asl, x_alr, x_len, x_cpy, x_m2, x_m1, x_m2l, x_m1l, x_call, x_cv, x_ri, x_rz, x_rl, x_rv, zg, zset, zbef, zlong, zcat, cond_true, cond_false, List.take, List.drop, rv1, rv2, rv3, rv4, rv5, rv6, rv7, sm0, sm1, bl0, bl1, bl2, bl3, bl4, bl5, bl6, bl7, bl8, List.nil_append, List.cons_append, List.length_cons, List.length_nil, Nat.reduceBEq, Nat.reduceAdd, Nat.reduceSub, ta, tb, tn0, tn1, tn2, tn3, tn4, tn5, tn6, tn7, tn8, tn9, tn10, tn11, tn12]
    refine ⟨fun z => absurd z (by decide), fun _ => p_isWoodC hT h11 (fun ok2 => ?_) (fun no => ?_)⟩
    · obtain ⟨x, rfl, hx⟩ := ok_of (by omega) ok
      obtain ⟨y, rfl, hy⟩ := ok_of (by omega) ok2
      simp only [if_pos ok, if_pos ok2, n_cl (show x < 2147483648 by omega), n_cl (show y < 2147483648 by omega)] at hK
      dsimp only [x_int, x_lng, x_ild, x_lld, x_ald, x_ist, x_ast, x_lst, x_inc, x_ii, x_id, x_i, x_ll, x_ld, x_l, x_cmp, x_i2l, x_l2i, x_if, x_ic, x_dup, x_pop, x_dup2, x_gI, x_gL, x_gR, x_g1, x_g0, x_gP, x_pI, x_pZ, x_pL, x_pP, x_al, x_as, x_all, x_asl, x_alr, x_len, x_cpy, x_m2, x_m1, x_m2l, x_m1l, x_call, x_cv, x_ri, x_rz, x_rl, x_rv, zg, zset, zbef, zlong, zcat, cond_true, cond_false, List.take, List.drop, rv1, rv2, rv3, rv4, rv5, rv6, rv7, sm0, sm1, bl0, bl1, bl2, bl3, bl4, bl5, bl6, bl7, bl8, List.nil_append, List.cons_append, List.length_cons, List.length_nil, Nat.reduceBEq, Nat.reduceAdd, Nat.reduceSub, ta, tb, tn0, tn1, tn2, tn3, tn4, tn5, tn6, tn7, tn8, tn9, tn10, tn11, tn12, g_sw, zk_14, zl_14, zl_43, bX11_law_60, bX11_law_93, bX11_law_106, bX11_law_125]
      rw [h11, n_cl (n := x) (by omega)]
      refine ⟨fun z => absurd z (by decide), fun _ => ⟨fun e0 => ?_, fun e0 => ⟨fun e1 => ?_, fun e1 => ⟨fun e2 => ?_, fun e2 => ?_⟩⟩⟩⟩
      · simp only [if_pos e0] at hK
        refine ⟨fun c => ?_, fun c => ⟨fun d => ?_, fun d => ?_⟩⟩
        · have := hK L zeL2.rf
          rw [if_neg (fun z => Int32.not_lt.mpr z.1 c)] at this; exact this
        · have ok3 : okN 6 k := ⟨Int32.not_lt.mp c, d⟩
          obtain ⟨z, rfl, hz⟩ := ok_of (by omega) ok3
          simp only [if_pos ok3, n_cl (show z < 2147483648 by omega)] at hK
          rw [n_cl (n := z) (by omega), (hT.hand hx).2.2.2 z hz]
          exact ⟨hT.1, n_zin (by omega) (by decide), n_zin hz (by decide), p_worth (q := 0) h8 hT hS (by decide) hx hy hK⟩
        · have := hK L zeL2.rf
          rw [if_neg (fun z => d z.2)] at this; exact this
      · simp only [if_neg e0, if_pos e1] at hK
        refine ⟨fun c => ?_, fun c => ⟨fun d => ?_, fun d => ?_⟩⟩
        · have := hK L zeL2.rf
          rw [if_neg (fun z => Int32.not_lt.mpr z.1 c)] at this; exact this
        · simp only [if_pos (show okI k 0 30 from ⟨Int32.not_lt.mp c, d⟩)] at hK
          exact p_worth (q := 1) h8 hT hS (by decide) hx hy hK
        · have := hK L zeL2.rf
          rw [if_neg (fun z => d z.2)] at this; exact this
      · simp only [if_neg e0, if_neg e1, if_pos e2] at hK
        exact p_worth (q := 2) h8 hT hS (by decide) hx hy hK
      · have := hK L zeL2.rf
        rw [if_neg e0, if_neg e1, if_neg e2] at this; exact this
    · have := hK L zeL2.rf
      rw [if_pos ok, if_neg no] at this
      exact ⟨fun _ => this, fun z => absurd rfl z⟩
  · have := hK L zeL2.rf
    rw [if_neg no] at this
    exact ⟨fun _ => this, fun z => absurd rfl z⟩
set_option maxHeartbeats 1000000 in
theorem r_law {K : zQ} {I : zI} {L : zJ} {P : zP} {A : aA} {q h w k : Int32} (hR : RR A I L) (hK : ∀ (I' : zI) (L' : zJ), frR I I' → zeLr L L' → K [.inr (.inl (v_law A q h w k))] (I', L', P)) : mX12_law K [refR, .inl q, .inl h, .inl w, .inl k] (I, L, P) := by
  show bX12_law_0 K [some (.inr (.inr (12,0))), some (.inl q), some (.inl h), some (.inl w), some (.inl k), none, none] [] (I, L, P)
  unfold bX12_law_0
  obtain ⟨I1, e9, hR1, f1⟩ := r_thr P hR
  dsimp only [x_ald, x_int, x_pI, zg, Nat.reduceBEq, cond_true]
  rw [e9]
  have hk := hK I1 L f1 zeLr.rf
  have hT := hR1.1
  have hS := hR1.2.1
  have hp := hR1.2.2.1
  have h6 := hT.h6
  have w4 := hT.w4
  -- behind the guards
  have go : ∀ (x y : Nat) (b p : Int32) (n : Nat), h = nI x → w = nI y → q = nI n → x < A.T.1 0 → y < A.T.1 1 → n < 3 → I1 66 0 n = 1 → (∀ v, v = lev (anm A.S x y b p) (A.T.2.2 n) [] → v_law A q h w k = v) → bX12_law_125 K [some refR, some (.inl q), some (.inl h), some (.inl w), some (.inl k), none, none] [.inl p, .inl b, .inl w, .inl h, .inl 0, refR] (I1, L, P) := by
    intro x y b p n e1 e2 e3 hx hy hn hl hv
    subst e1 e2 e3
    rw [hv _ rfl] at hK
    unfold bX12_law_125
    dsimp only [x_int, x_lng, x_ild, x_lld, x_ald, x_ist, x_ast, x_lst, x_inc, x_ii, x_id, x_i, x_ll, x_ld, x_l, x_cmp, x_i2l, x_l2i, x_if, x_ic, x_dup, x_pop, x_dup2, x_gI, x_gL, x_gR, x_g1, x_g0, x_gP, x_pI, x_pZ, x_pL, x_pP, x_al, x_as, x_all, x_asl, x_alr, x_len, x_cpy, x_m2, x_m1, x_m2l, x_m1l, x_call, x_cv, x_ri, x_rz, x_rl, x_rv, zg, zset, zbef, zlong, zcat, cond_true, cond_false, List.take, List.drop, rv1, rv2, rv3, rv4, rv5, rv6, rv7, sm0, sm1, bl0, bl1, bl2, bl3, bl4, bl5, bl6, bl7, bl8, List.nil_append, List.cons_append, List.length_cons, List.length_nil, Nat.reduceBEq, Nat.reduceAdd, Nat.reduceSub, ta, tb, tn0, tn1, tn2, tn3, tn4, tn5, tn6, tn7, tn8, tn9, tn10, tn11, tn12]
    refine p_layNames (b := 0) (by decide) (by omega) (by omega) (fun L1 a1 n1 => ?_)
    rw [nmv_R hS hx hy] at n1
    dsimp only [x_int, x_lng, x_ild, x_lld, x_ald, x_ist, x_ast, x_lst, x_inc, x_ii, x_id, x_i, x_ll, x_ld, x_l, x_cmp, x_i2l, x_l2i, x_if, x_ic, x_dup, x_pop, x_dup2, x_gI, x_gL, x_gR, x_g1, x_g0, x_gP, x_pI, x_pZ, x_pL, x_pP, x_al, x_as, x_all, x_asl, x_alr, x_len, x_cpy, x_m2, x_m1, x_m2l, x_m1l, x_call, x_cv, x_ri, x_rz, x_rl, x_rv, zg, zset, zbef, zlong, zcat, cond_true, cond_false, List.take, List.drop, rv1, rv2, rv3, rv4, rv5, rv6, rv7, sm0, sm1, bl0, bl1, bl2, bl3, bl4, bl5, bl6, bl7, bl8, List.nil_append, List.cons_append, List.length_cons, List.length_nil, Nat.reduceBEq, Nat.reduceAdd, Nat.reduceSub, ta, tb, tn0, tn1, tn2, tn3, tn4, tn5, tn6, tn7, tn8, tn9, tn10, tn11, tn12]
    rcases hT.law hn with ⟨g1, g2⟩ | ⟨g1, a, g2, g3, g4, g5⟩
    · rw [g2] at hl; exact absurd hl (by decide)
    refine p_lawOf hn g2 g3 g5 g4 n1 (fun z _ => nmv_inB z) (fun I2 L2 v hI2 hL2 hv2 => ?_)
    have hk2 := hK I2 L2 (f1.tr (frE_R hI2)) (fun a b c q1 q2 => (hL2 a b c q2).trans (a1 a b c q1))
    dsimp only [x_int, x_lng, x_ild, x_lld, x_ald, x_ist, x_ast, x_lst, x_inc, x_ii, x_id, x_i, x_ll, x_ld, x_l, x_cmp, x_i2l, x_l2i, x_if, x_ic, x_dup, x_pop, x_dup2, x_gI, x_gL, x_gR, x_g1, x_g0, x_gP, x_pI, x_pZ, x_pL, x_pP, x_al, x_as, x_all, x_asl, x_alr, x_len, x_cpy, x_m2, x_m1, x_m2l, x_m1l, x_call, x_cv, x_ri, x_rz, x_rl, x_rv, zg, zset, zbef, zlong, zcat, cond_true, cond_false, List.take, List.drop, rv1, rv2, rv3, rv4, rv5, rv6, rv7, sm0, sm1, bl0, bl1, bl2, bl3, bl4, bl5, bl6, bl7, bl8, List.nil_append, List.cons_append, List.length_cons, List.length_nil, Nat.reduceBEq, Nat.reduceAdd, Nat.reduceSub, ta, tb, tn0, tn1, tn2, tn3, tn4, tn5, tn6, tn7, tn8, tn9, tn10, tn11, tn12, bX12_law_150]
    rcases hv2 with ⟨j1, j2⟩ | ⟨j1, j2, rfl⟩
    · rw [j2]
      rw [j1] at hk2
      exact ⟨fun z => absurd z (by decide), fun _ => hk2⟩
    · rw [j2]
      exact ⟨fun _ => hk2, fun z => absurd rfl z⟩
  have hno : ∀ {c : Prop}, (c → v_law A q h w k = zER) → c → K [.inr (.inl (-9223372036854775808))] (I1, L, P) := fun f hc => by rw [f hc] at hk; exact hk
  dsimp only [x_int, x_lng, x_ild, x_lld, x_ald, x_ist, x_ast, x_lst, x_inc, x_ii, x_id, x_i, x_ll, x_ld, x_l, x_cmp, x_i2l, x_l2i, x_if, x_ic, x_dup, x_pop, x_dup2, x_gI, x_gL, x_gR, x_g1, x_g0, x_gP, x_pI, x_pZ, x_pL, x_pP, x_al, x_as, x_all, x_asl, x_alr, x_len, x_cpy, x_m2, x_m1, x_m2l, x_m1l, x_call, x_cv, x_ri, x_rz, x_rl, x_rv, zg, zset, zbef, zlong, zcat, cond_true, cond_false, List.take, List.drop, rv1, rv2, rv3, rv4, rv5, rv6, rv7, sm0, sm1, bl0, bl1, bl2, bl3, bl4, bl5, bl6, bl7, bl8, List.nil_append, List.cons_append, List.length_cons, List.length_nil, Nat.reduceBEq, Nat.reduceAdd, Nat.reduceSub, ta, tb, tn0, tn1, tn2, tn3, tn4, tn5, tn6, tn7, tn8, tn9, tn10, tn11, tn12]
  refine p_isIn (fun ok0 => ?_) (fun no => ?_)
  · have : q = 0 ∨ q = 1 ∨ q = 2 := by
      obtain ⟨n, rfl, hn⟩ := n_nn ok0.1
      have := ok0.2
      rw [show (2 : Int32) = nI 2 from rfl, n_le hn (by decide)] at this
      have : n = 0 ∨ n = 1 ∨ n = 2 := by omega
      rcases this with rfl | rfl | rfl
      · exact Or.inl rfl
      · exact Or.inr (Or.inl rfl)
      · exact Or.inr (Or.inr rfl)
    obtain ⟨n, hn, hq⟩ : ∃ n, n < 3 ∧ q = nI n := by
      rcases this with rfl | rfl | rfl
      · exact ⟨0, by decide, rfl⟩
      · exact ⟨1, by decide, rfl⟩
      · exact ⟨2, by decide, rfl⟩
    dsimp only [x_int, x_lng, x_ild, x_lld, x_ald, x_ist, x_ast, x_lst, x_inc, x_ii, x_id, x_i, x_ll, x_ld, x_l, x_cmp, x_i2l, x_l2i, x_if, x_ic, x_dup, x_pop, x_dup2, x_gI, x_gL, x_gR, x_g1, x_g0, x_gP, x_pI, x_pZ, x_pL, x_pP, x_al, x_as, x_all, x_asl, x_alr, x_len, x_cpy, x_m2, x_m1, x_m2l, x_m1l, x_call, x_cv, x_ri, x_rz, x_rl, x_rv, zg, zset, zbef, zlong, zcat, cond_true, cond_false, List.take, List.drop, rv1, rv2, rv3, rv4, rv5, rv6, rv7, sm0, sm1, bl0, bl1, bl2, bl3, bl4, bl5, bl6, bl7, bl8, List.nil_append, List.cons_append, List.length_cons, List.length_nil, Nat.reduceBEq, Nat.reduceAdd, Nat.reduceSub, ta, tb, tn0, tn1, tn2, tn3, tn4, tn5, tn6, tn7, tn8, tn9, tn10, tn11, tn12, zk_66, zl_66, bX12_law_39]
    refine ⟨fun z => absurd z (by decide), fun _ => ⟨?_, fun e => ?_, fun e => p_isHandR hT (fun ok => ?_) (fun no => ?_)⟩⟩
    · rw [hq]; exact n_zin (by omega) (by decide)
    · refine hno (c := A.T.2.2 n = []) (fun hnil => ?_) ?_
      · unfold v_law
        have : ∀ nm : Nat → Int64, lev nm (A.T.2.2 n) [] = zER := fun nm => by rw [hnil]; rfl
        rcases this2 : n with _ | _ | _ | n
        · subst this2; rw [hq]; simp only [this, if_true, ite_self]; simp [nI]
        · subst this2; rw [hq]; simp only [this, ite_self]; simp [nI]
        · subst this2; rw [hq]; simp only [this, ite_self]; simp [nI]
        · omega
      · rcases hT.law hn with ⟨g1, g2⟩ | ⟨g1, -⟩
        · exact g1
        · rw [hq, n_cl (n := n) (by omega), g1] at e
          exact absurd e (by decide)
    · have hl : I1 66 0 n = 1 := by
        rcases hT.law hn with ⟨g1, g2⟩ | ⟨g1, -⟩
        · rw [hq, n_cl (n := n) (by omega), g2] at e
          exact absurd rfl e
        · exact g1
      obtain ⟨x, hxe, hx⟩ := ok_of (by omega) ok
      dsimp only [x_int, x_lng, x_ild, x_lld, x_ald, x_ist, x_ast, x_lst, x_inc, x_ii, x_id, x_i, x_ll, x_ld, x_l, x_cmp, x_i2l, x_l2i, x_if, x_ic, x_dup, x_pop, x_dup2, x_gI, x_gL, x_gR, x_g1, x_g0, x_gP, x_pI, x_pZ, x_pL, x_pP, x_al, x_as, x_all, x_asl, x_alr, x_len, x_cpy, x_m2, x_m1, x_m2l, x_m1l, x_call, x_cv, x_ri, x_rz, x_rl, x_rv, zg, zset, zbef, zlong, zcat, cond_true, cond_false, List.take, List.drop, rv1, rv2, rv3, rv4, rv5, rv6, rv7, sm0, sm1, bl0, bl1, bl2, bl3, bl4, bl5, bl6, bl7, bl8, List.nil_append, List.cons_append, List.length_cons, List.length_nil, Nat.reduceBEq, Nat.reduceAdd, Nat.reduceSub, ta, tb, tn0, tn1, tn2, tn3, tn4, tn5, tn6, tn7, tn8, tn9, tn10, tn11, tn12, bX12_law_39]
      refine ⟨fun z => absurd z (by decide), fun _ => p_isWoodR hT (fun ok2 => ?_) (fun no => ?_)⟩
      · obtain ⟨y, hye, hy⟩ := ok_of (by omega) ok2
        have ev : v_law A q h w k = (if q = 0 then (if okN 6 k then lev (anm A.S x y (A.T.2.1 3 (6 * x + k.toNatClampNeg)) k) (A.T.2.2 0) [] else zER)
          else if q = 1 then (if okI k 0 30 then lev (anm A.S x y k 0) (A.T.2.2 1) [] else zER)
          else if q = 2 then lev (anm A.S x y 0 0) (A.T.2.2 2) [] else zER) := by
          unfold v_law
          rw [if_pos ok, if_pos ok2, hxe, hye, n_cl (n := x) (by omega), n_cl (n := y) (by omega)]
        dsimp only [x_int, x_lng, x_ild, x_lld, x_ald, x_ist, x_ast, x_lst, x_inc, x_ii, x_id, x_i, x_ll, x_ld, x_l, x_cmp, x_i2l, x_l2i, x_if, x_ic, x_dup, x_pop, x_dup2, x_gI, x_gL, x_gR, x_g1, x_g0, x_gP, x_pI, x_pZ, x_pL, x_pP, x_al, x_as, x_all, x_asl, x_alr, x_len, x_cpy, x_m2, x_m1, x_m2l, x_m1l, x_call, x_cv, x_ri, x_rz, x_rl, x_rv, zg, zset, zbef, zlong, zcat, cond_true, cond_false, List.take, List.drop, rv1, rv2, rv3, rv4, rv5, rv6, rv7, sm0, sm1, bl0, bl1, bl2, bl3, bl4, bl5, bl6, bl7, bl8, List.nil_append, List.cons_append, List.length_cons, List.length_nil, Nat.reduceBEq, Nat.reduceAdd, Nat.reduceSub, ta, tb, tn0, tn1, tn2, tn3, tn4, tn5, tn6, tn7, tn8, tn9, tn10, tn11, tn12, bX12_law_57]
        refine ⟨fun z => absurd z (by decide), fun _ => ⟨fun e0 => ?_, fun e0 => ⟨fun e1 => ?_, fun e1 => ?_⟩⟩⟩
        · rw [if_pos e0] at ev
          refine p_isIn (fun ok3 => ?_) (fun no => ?_)
          · have ok6 : okN 6 k := ⟨ok3.1, by
              have := ok3.2
              rw [Int32.lt_iff_toInt_lt]
              rw [Int32.le_iff_toInt_le] at this
              have e1 : (5 : Int32).toInt = 5 := rfl
              have e2 : (nI 6).toInt = 6 := rfl
              omega⟩
            obtain ⟨z, hze, hz⟩ := ok_of (by omega) ok6
            rw [if_pos ok6] at ev
            dsimp only [x_int, x_lng, x_ild, x_lld, x_ald, x_ist, x_ast, x_lst, x_inc, x_ii, x_id, x_i, x_ll, x_ld, x_l, x_cmp, x_i2l, x_l2i, x_if, x_ic, x_dup, x_pop, x_dup2, x_gI, x_gL, x_gR, x_g1, x_g0, x_gP, x_pI, x_pZ, x_pL, x_pP, x_al, x_as, x_all, x_asl, x_alr, x_len, x_cpy, x_m2, x_m1, x_m2l, x_m1l, x_call, x_cv, x_ri, x_rz, x_rl, x_rv, zg, zset, zbef, zlong, zcat, cond_true, cond_false, List.take, List.drop, rv1, rv2, rv3, rv4, rv5, rv6, rv7, sm0, sm1, bl0, bl1, bl2, bl3, bl4, bl5, bl6, bl7, bl8, List.nil_append, List.cons_append, List.length_cons, List.length_nil, Nat.reduceBEq, Nat.reduceAdd, Nat.reduceSub, ta, tb, tn0, tn1, tn2, tn3, tn4, tn5, tn6, tn7, tn8, tn9, tn10, tn11, tn12, bX12_law_57, bX12_law_77]
            refine ⟨fun z => absurd z (by decide), fun _ => ⟨fun e1 => absurd (e0.symm.trans e1) (by decide), fun e1 => p_plainTried hp ?_⟩⟩
            dsimp only [x_int, x_lng, x_ild, x_lld, x_ald, x_ist, x_ast, x_lst, x_inc, x_ii, x_id, x_i, x_ll, x_ld, x_l, x_cmp, x_i2l, x_l2i, x_if, x_ic, x_dup, x_pop, x_dup2, x_gI, x_gL, x_gR, x_g1, x_g0, x_gP, x_pI, x_pZ, x_pL, x_pP, x_al, x_as, x_all, x_asl, x_alr, x_len, x_cpy, x_m2, x_m1, x_m2l, x_m1l, x_call, x_cv, x_ri, x_rz, x_rl, x_rv, zg, zset, zbef, zlong, zcat, cond_true, cond_false, List.take, List.drop, rv1, rv2, rv3, rv4, rv5, rv6, rv7, sm0, sm1, bl0, bl1, bl2, bl3, bl4, bl5, bl6, bl7, bl8, List.nil_append, List.cons_append, List.length_cons, List.length_nil, Nat.reduceBEq, Nat.reduceAdd, Nat.reduceSub, ta, tb, tn0, tn1, tn2, tn3, tn4, tn5, tn6, tn7, tn8, tn9, tn10, tn11, tn12, zk_58, zl_58, bX12_law_115]
            rw [hxe, hze, n6, n_cl (n := 6 * x + z) (by omega), (hT.hand hx).2.2.2 z hz]
            rw [hze, n_cl (n := z) (by omega)] at ev
            refine ⟨fun _ => ⟨n_zin (by omega) (by decide), fun _ => ?_, fun z => absurd e0 z⟩, fun z => absurd e0 z⟩
            have := go x y (A.T.2.1 3 (6 * x + z)) k 0 hxe hye e0 hx hy (by decide) (by rw [hq] at e0; have := (n_eq (by omega) (by decide)).mp (show nI n = nI 0 from e0); rw [this] at hl; exact hl) (fun v hv => by rw [hv, hze]; rw [← hze] at ev ⊢; rw [ev])
            rw [hxe, hze] at this
            exact this
          · dsimp only [x_int, x_lng, x_ild, x_lld, x_ald, x_ist, x_ast, x_lst, x_inc, x_ii, x_id, x_i, x_ll, x_ld, x_l, x_cmp, x_i2l, x_l2i, x_if, x_ic, x_dup, x_pop, x_dup2, x_gI, x_gL, x_gR, x_g1, x_g0, x_gP, x_pI, x_pZ, x_pL, x_pP, x_al, x_as, x_all, x_asl, x_alr, x_len, x_cpy, x_m2, x_m1, x_m2l, x_m1l, x_call, x_cv, x_ri, x_rz, x_rl, x_rv, zg, zset, zbef, zlong, zcat, cond_true, cond_false, List.take, List.drop, rv1, rv2, rv3, rv4, rv5, rv6, rv7, sm0, sm1, bl0, bl1, bl2, bl3, bl4, bl5, bl6, bl7, bl8, List.nil_append, List.cons_append, List.length_cons, List.length_nil, Nat.reduceBEq, Nat.reduceAdd, Nat.reduceSub, ta, tb, tn0, tn1, tn2, tn3, tn4, tn5, tn6, tn7, tn8, tn9, tn10, tn11, tn12, bX12_law_73]
            rw [if_neg (fun z => no ⟨z.1, by
              have := z.2
              rw [Int32.le_iff_toInt_le]
              rw [Int32.lt_iff_toInt_lt] at this
              have e1 : (5 : Int32).toInt = 5 := rfl
              have e2 : (nI 6).toInt = 6 := rfl
              omega⟩)] at ev
            exact ⟨fun _ => hno (c := True) (fun _ => ev) trivial, fun z => absurd rfl z⟩
        · rw [if_neg e0, if_pos e1] at ev
          refine p_isIn (fun ok3 => ?_) (fun no => ?_)
          · rw [if_pos ok3] at ev
            dsimp only [x_int, x_lng, x_ild, x_lld, x_ald, x_ist, x_ast, x_lst, x_inc, x_ii, x_id, x_i, x_ll, x_ld, x_l, x_cmp, x_i2l, x_l2i, x_if, x_ic, x_dup, x_pop, x_dup2, x_gI, x_gL, x_gR, x_g1, x_g0, x_gP, x_pI, x_pZ, x_pL, x_pP, x_al, x_as, x_all, x_asl, x_alr, x_len, x_cpy, x_m2, x_m1, x_m2l, x_m1l, x_call, x_cv, x_ri, x_rz, x_rl, x_rv, zg, zset, zbef, zlong, zcat, cond_true, cond_false, List.take, List.drop, rv1, rv2, rv3, rv4, rv5, rv6, rv7, sm0, sm1, bl0, bl1, bl2, bl3, bl4, bl5, bl6, bl7, bl8, List.nil_append, List.cons_append, List.length_cons, List.length_nil, Nat.reduceBEq, Nat.reduceAdd, Nat.reduceSub, ta, tb, tn0, tn1, tn2, tn3, tn4, tn5, tn6, tn7, tn8, tn9, tn10, tn11, tn12, bX12_law_77]
            refine ⟨fun z => absurd z (by decide), fun _ => p_plainTried hp ?_⟩
            dsimp only [x_int, x_lng, x_ild, x_lld, x_ald, x_ist, x_ast, x_lst, x_inc, x_ii, x_id, x_i, x_ll, x_ld, x_l, x_cmp, x_i2l, x_l2i, x_if, x_ic, x_dup, x_pop, x_dup2, x_gI, x_gL, x_gR, x_g1, x_g0, x_gP, x_pI, x_pZ, x_pL, x_pP, x_al, x_as, x_all, x_asl, x_alr, x_len, x_cpy, x_m2, x_m1, x_m2l, x_m1l, x_call, x_cv, x_ri, x_rz, x_rl, x_rv, zg, zset, zbef, zlong, zcat, cond_true, cond_false, List.take, List.drop, rv1, rv2, rv3, rv4, rv5, rv6, rv7, sm0, sm1, bl0, bl1, bl2, bl3, bl4, bl5, bl6, bl7, bl8, List.nil_append, List.cons_append, List.length_cons, List.length_nil, Nat.reduceBEq, Nat.reduceAdd, Nat.reduceSub, ta, tb, tn0, tn1, tn2, tn3, tn4, tn5, tn6, tn7, tn8, tn9, tn10, tn11, tn12, zk_58, zl_58, bX12_law_115]
            refine ⟨fun z => absurd z e0, fun _ => ⟨fun _ => ⟨fun z => absurd z e0, fun _ => ?_⟩, fun z => absurd e1 z⟩⟩
            exact go x y k 0 1 hxe hye e1 hx hy (by decide) (by rw [hq] at e1; have := (n_eq (by omega) (by decide)).mp (show nI n = nI 1 from e1); rw [this] at hl; exact hl) (fun v hv => by rw [hv, ev])
          · dsimp only [x_int, x_lng, x_ild, x_lld, x_ald, x_ist, x_ast, x_lst, x_inc, x_ii, x_id, x_i, x_ll, x_ld, x_l, x_cmp, x_i2l, x_l2i, x_if, x_ic, x_dup, x_pop, x_dup2, x_gI, x_gL, x_gR, x_g1, x_g0, x_gP, x_pI, x_pZ, x_pL, x_pP, x_al, x_as, x_all, x_asl, x_alr, x_len, x_cpy, x_m2, x_m1, x_m2l, x_m1l, x_call, x_cv, x_ri, x_rz, x_rl, x_rv, zg, zset, zbef, zlong, zcat, cond_true, cond_false, List.take, List.drop, rv1, rv2, rv3, rv4, rv5, rv6, rv7, sm0, sm1, bl0, bl1, bl2, bl3, bl4, bl5, bl6, bl7, bl8, List.nil_append, List.cons_append, List.length_cons, List.length_nil, Nat.reduceBEq, Nat.reduceAdd, Nat.reduceSub, ta, tb, tn0, tn1, tn2, tn3, tn4, tn5, tn6, tn7, tn8, tn9, tn10, tn11, tn12, bX12_law_73]
            rw [if_neg no] at ev
            exact ⟨fun _ => hno (c := True) (fun _ => ev) trivial, fun z => absurd rfl z⟩
        · have e2 : q = 2 := (this.resolve_left e0).resolve_left e1
          rw [if_neg e0, if_neg e1, if_pos e2] at ev
          unfold bX12_law_77
          dsimp only [x_int, x_lng, x_ild, x_lld, x_ald, x_ist, x_ast, x_lst, x_inc, x_ii, x_id, x_i, x_ll, x_ld, x_l, x_cmp, x_i2l, x_l2i, x_if, x_ic, x_dup, x_pop, x_dup2, x_gI, x_gL, x_gR, x_g1, x_g0, x_gP, x_pI, x_pZ, x_pL, x_pP, x_al, x_as, x_all, x_asl, x_alr, x_len, x_cpy, x_m2, x_m1, x_m2l, x_m1l, x_call, x_cv, x_ri, x_rz, x_rl, x_rv, zg, zset, zbef, zlong, zcat, cond_true, cond_false, List.take, List.drop, rv1, rv2, rv3, rv4, rv5, rv6, rv7, sm0, sm1, bl0, bl1, bl2, bl3, bl4, bl5, bl6, bl7, bl8, List.nil_append, List.cons_append, List.length_cons, List.length_nil, Nat.reduceBEq, Nat.reduceAdd, Nat.reduceSub, ta, tb, tn0, tn1, tn2, tn3, tn4, tn5, tn6, tn7, tn8, tn9, tn10, tn11, tn12]
          refine p_plainTried hp ?_
          dsimp only [x_int, x_lng, x_ild, x_lld, x_ald, x_ist, x_ast, x_lst, x_inc, x_ii, x_id, x_i, x_ll, x_ld, x_l, x_cmp, x_i2l, x_l2i, x_if, x_ic, x_dup, x_pop, x_dup2, x_gI, x_gL, x_gR, x_g1, x_g0, x_gP, x_pI, x_pZ, x_pL, x_pP, x_al, x_as, x_all, x_asl, x_alr, x_len, x_cpy, x_m2, x_m1, x_m2l, x_m1l, x_call, x_cv, x_ri, x_rz, x_rl, x_rv, zg, zset, zbef, zlong, zcat, cond_true, cond_false, List.take, List.drop, rv1, rv2, rv3, rv4, rv5, rv6, rv7, sm0, sm1, bl0, bl1, bl2, bl3, bl4, bl5, bl6, bl7, bl8, List.nil_append, List.cons_append, List.length_cons, List.length_nil, Nat.reduceBEq, Nat.reduceAdd, Nat.reduceSub, ta, tb, tn0, tn1, tn2, tn3, tn4, tn5, tn6, tn7, tn8, tn9, tn10, tn11, tn12, zk_58, zl_58, bX12_law_115]
          refine ⟨fun z => absurd z e0, fun _ => ⟨fun z => absurd z e1, fun _ => ⟨fun z => absurd z e0, fun _ => ?_⟩⟩⟩
          exact go x y 0 0 2 hxe hye e2 hx hy (by decide) (by rw [hq] at e2; have := (n_eq (by omega) (by decide)).mp (show nI n = nI 2 from e2); rw [this] at hl; exact hl) (fun v hv => by rw [hv, ev])
      · dsimp only [x_int, x_lng, x_ild, x_lld, x_ald, x_ist, x_ast, x_lst, x_inc, x_ii, x_id, x_i, x_ll, x_ld, x_l, x_cmp, x_i2l, x_l2i, x_if, x_ic, x_dup, x_pop, x_dup2, x_gI, x_gL, x_gR, x_g1, x_g0, x_gP, x_pI, x_pZ, x_pL, x_pP, x_al, x_as, x_all, x_asl, x_alr, x_len, x_cpy, x_m2, x_m1, x_m2l, x_m1l, x_call, x_cv, x_ri, x_rz, x_rl, x_rv, zg, zset, zbef, zlong, zcat, cond_true, cond_false, List.take, List.drop, rv1, rv2, rv3, rv4, rv5, rv6, rv7, sm0, sm1, bl0, bl1, bl2, bl3, bl4, bl5, bl6, bl7, bl8, List.nil_append, List.cons_append, List.length_cons, List.length_nil, Nat.reduceBEq, Nat.reduceAdd, Nat.reduceSub, ta, tb, tn0, tn1, tn2, tn3, tn4, tn5, tn6, tn7, tn8, tn9, tn10, tn11, tn12, bX12_law_39]
        exact ⟨fun _ => hno (c := True) (fun _ => by unfold v_law; rw [if_pos ok, if_neg no]) trivial, fun z => absurd rfl z⟩
    · dsimp only [x_int, x_lng, x_ild, x_lld, x_ald, x_ist, x_ast, x_lst, x_inc, x_ii, x_id, x_i, x_ll, x_ld, x_l, x_cmp, x_i2l, x_l2i, x_if, x_ic, x_dup, x_pop, x_dup2, x_gI, x_gL, x_gR, x_g1, x_g0, x_gP, x_pI, x_pZ, x_pL, x_pP, x_al, x_as, x_all, x_asl, x_alr, x_len, x_cpy, x_m2, x_m1, x_m2l, x_m1l, x_call, x_cv, x_ri, x_rz, x_rl, x_rv, zg, zset, zbef, zlong, zcat, cond_true, cond_false, List.take, List.drop, rv1, rv2, rv3, rv4, rv5, rv6, rv7, sm0, sm1, bl0, bl1, bl2, bl3, bl4, bl5, bl6, bl7, bl8, List.nil_append, List.cons_append, List.length_cons, List.length_nil, Nat.reduceBEq, Nat.reduceAdd, Nat.reduceSub, ta, tb, tn0, tn1, tn2, tn3, tn4, tn5, tn6, tn7, tn8, tn9, tn10, tn11, tn12, bX12_law_39]
      exact ⟨fun _ => hno (c := True) (fun _ => by unfold v_law; rw [if_neg no]) trivial, fun z => absurd rfl z⟩
  · dsimp only [x_int, x_lng, x_ild, x_lld, x_ald, x_ist, x_ast, x_lst, x_inc, x_ii, x_id, x_i, x_ll, x_ld, x_l, x_cmp, x_i2l, x_l2i, x_if, x_ic, x_dup, x_pop, x_dup2, x_gI, x_gL, x_gR, x_g1, x_g0, x_gP, x_pI, x_pZ, x_pL, x_pP, x_al, x_as, x_all, x_asl, x_alr, x_len, x_cpy, x_m2, x_m1, x_m2l, x_m1l, x_call, x_cv, x_ri, x_rz, x_rl, x_rv, zg, zset, zbef, zlong, zcat, cond_true, cond_false, List.take, List.drop, rv1, rv2, rv3, rv4, rv5, rv6, rv7, sm0, sm1, bl0, bl1, bl2, bl3, bl4, bl5, bl6, bl7, bl8, List.nil_append, List.cons_append, List.length_cons, List.length_nil, Nat.reduceBEq, Nat.reduceAdd, Nat.reduceSub, ta, tb, tn0, tn1, tn2, tn3, tn4, tn5, tn6, tn7, tn8, tn9, tn10, tn11, tn12, bX12_law_39]
    refine ⟨fun _ => hno (c := True) (fun _ => ?_) trivial, fun z => absurd rfl z⟩
    have n0 : ¬ q = 0 := fun e => no (by rw [e]; decide)
    have n1 : ¬ q = 1 := fun e => no (by rw [e]; decide)
    have n2 : ¬ q = 2 := fun e => no (by rw [e]; decide)
    unfold v_law
    rw [if_neg n0, if_neg n1, if_neg n2, ite_self, ite_self]
