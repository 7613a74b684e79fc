theorem fr1_Q {I I' : zI} (h : fr1 48 I I') : frQ I I' := fun a b c q => h a b c (fun e => by rw [e.1, e.2] at q; exact absurd q (by decide))
theorem fr1_R {I I' : zI} (h : fr1 87 I I') : frR I I' := fun a i c q => h a i c (fun e => q ⟨e.2, Or.inr (Or.inl e.1)⟩)
def v_whose (A : aA) (x w : Int32) : Int32 := if okK x then (if okN (A.T.1 1) w then (if A.T.1 0 = 0 then -1 else wbI (whof A.T A.S w.toNatClampNeg (knK x.toNatClampNeg))) else -1) else -1
theorem c_whose {K : zQ} {I : zI} {L : zJ} {P : zP} {A : aA} {x w : Int32} (hC : RC A I P) (hK : ∀ (I' : zI) (L' : zJ), frQ I I' → zeL2 L L' → K [.inl (v_whose A x w)] (I', L', P)) : mX11_whose K [kbR, .inl x, .inl w] (I, L, P) := by
  unfold v_whose at hK
  show bX11_whose_0 K [some (.inr (.inr (11,0))), some (.inl x), some (.inl w)] [] (I, L, P)
  unfold bX11_whose_0
  dsimp only [x_int, x_lng, x_ild, x_lld, x_ald, x_ist, x_ast, x_lst, x_inc, x_ii, x_id, x_i, x_ll, x_ld, x_l, x_cmp, x_i2l, x_l2i, x_if, x_ic, x_dup, x_pop, x_dup2, x_gI, x_gL, x_gR, x_g1, x_g0, x_gP, x_pI, x_pZ, x_pL, x_pP, x_al, x_as, x_all, x_asl, x_alr, x_len, x_cpy, x_m2, x_m1, x_m2l, x_m1l, x_call, x_cv, x_ri, x_rz, x_rl, x_rv, zg, zset, zbef, zlong, zcat, cond_true, cond_false, List.take, List.drop, rv1, rv2, rv3, rv4, rv5, rv6, rv7, sm0, sm1, bl0, bl1, bl2, bl3, bl4, bl5, bl6, bl7, bl8, List.nil_append, List.cons_append, List.length_cons, List.length_nil, Nat.reduceBEq, Nat.reduceAdd, Nat.reduceSub, ta, tb, tn0, tn1, tn2, tn3, tn4, tn5, tn6, tn7, tn8, tn9, tn10, tn11, tn12]
  refine p_isSpread (fun ok I1 hI1 hg => ?_) (fun no I1 hI1 => ?_)
  · have hC1 := hC.q (fr1_Q hI1) frP.rf
    obtain ⟨t, hT, h11, h8, hS⟩ := hC1.b
    have h6 := hT.h6
    have w4 := hT.w4
    dsimp only [x_int, x_lng, x_ild, x_lld, x_ald, x_ist, x_ast, x_lst, x_inc, x_ii, x_id, x_i, x_ll, x_ld, x_l, x_cmp, x_i2l, x_l2i, x_if, x_ic, x_dup, x_pop, x_dup2, x_gI, x_gL, x_gR, x_g1, x_g0, x_gP, x_pI, x_pZ, x_pL, x_pP, x_al, x_as, x_all, x_asl, x_alr, x_len, x_cpy, x_m2, x_m1, x_m2l, x_m1l, x_call, x_cv, x_ri, x_rz, x_rl, x_rv, zg, zset, zbef, zlong, zcat, cond_true, cond_false, List.take, List.drop, rv1, rv2, rv3, rv4, rv5, rv6, rv7, sm0, sm1, bl0, bl1, bl2, bl3, bl4, bl5, bl6, bl7, bl8, List.nil_append, List.cons_append, List.length_cons, List.length_nil, Nat.reduceBEq, Nat.reduceAdd, Nat.reduceSub, ta, tb, tn0, tn1, tn2, tn3, tn4, tn5, tn6, tn7, tn8, tn9, tn10, tn11, tn12]
    refine ⟨fun z => absurd z (by decide), fun _ => p_isWoodC hT h11 (fun ok2 => ?_) (fun no => ?_)⟩
    · dsimp only [x_int, x_lng, x_ild, x_lld, x_ald, x_ist, x_ast, x_lst, x_inc, x_ii, x_id, x_i, x_ll, x_ld, x_l, x_cmp, x_i2l, x_l2i, x_if, x_ic, x_dup, x_pop, x_dup2, x_gI, x_gL, x_gR, x_g1, x_g0, x_gP, x_pI, x_pZ, x_pL, x_pP, x_al, x_as, x_all, x_asl, x_alr, x_len, x_cpy, x_m2, x_m1, x_m2l, x_m1l, x_call, x_cv, x_ri, x_rz, x_rl, x_rv, zg, zset, zbef, zlong, zcat, cond_true, cond_false, List.take, List.drop, rv1, rv2, rv3, rv4, rv5, rv6, rv7, sm0, sm1, bl0, bl1, bl2, bl3, bl4, bl5, bl6, bl7, bl8, List.nil_append, List.cons_append, List.length_cons, List.length_nil, Nat.reduceBEq, Nat.reduceAdd, Nat.reduceSub, ta, tb, tn0, tn1, tn2, tn3, tn4, tn5, tn6, tn7, tn8, tn9, tn10, tn11, tn12, bX11_whose_29]
      rw [h11, hT.2.1.1]
      refine ⟨fun z => absurd z (by decide), fun _ => ⟨hT.1, fun e => ?_, fun e => ?_⟩⟩
      · have e : nI (A.T.1 0) = nI 0 := e
        rw [n_eq (by omega) (by omega)] at e
        have := hK I1 L (fr1_Q hI1) zeL2.rf
        rw [if_pos ok, if_pos ok2, if_pos e] at this
        exact this
      · have e : ¬ A.T.1 0 = 0 := fun q => e (by rw [q]; rfl)
        obtain ⟨y, rfl, hy⟩ := ok_of (by omega) ok2
        rw [if_pos ok, if_pos ok2, if_neg e, n_cl (n := y) (by omega)] at hK
        exact p_whoKnocks h8 hT hS hy rfl rfl hg (fun L' hL' => hK I1 L' (fr1_Q hI1) hL')
    · dsimp only [x_int, x_lng, x_ild, x_lld, x_ald, x_ist, x_ast, x_lst, x_inc, x_ii, x_id, x_i, x_ll, x_ld, x_l, x_cmp, x_i2l, x_l2i, x_if, x_ic, x_dup, x_pop, x_dup2, x_gI, x_gL, x_gR, x_g1, x_g0, x_gP, x_pI, x_pZ, x_pL, x_pP, x_al, x_as, x_all, x_asl, x_alr, x_len, x_cpy, x_m2, x_m1, x_m2l, x_m1l, x_call, x_cv, x_ri, x_rz, x_rl, x_rv, zg, zset, zbef, zlong, zcat, cond_true, cond_false, List.take, List.drop, rv1, rv2, rv3, rv4, rv5, rv6, rv7, sm0, sm1, bl0, bl1, bl2, bl3, bl4, bl5, bl6, bl7, bl8, List.nil_append, List.cons_append, List.length_cons, List.length_nil, Nat.reduceBEq, Nat.reduceAdd, Nat.reduceSub, ta, tb, tn0, tn1, tn2, tn3, tn4, tn5, tn6, tn7, tn8, tn9, tn10, tn11, tn12, bX11_whose_29]
      have := hK I1 L (fr1_Q hI1) zeL2.rf
      rw [if_pos ok, if_neg no] at this
      exact ⟨fun _ => this, fun z => absurd rfl z⟩
  · dsimp only [x_int, x_lng, x_ild, x_lld, x_ald, x_ist, x_ast, x_lst, x_inc, x_ii, x_id, x_i, x_ll, x_ld, x_l, x_cmp, x_i2l, x_l2i, x_if, x_ic, x_dup, x_pop, x_dup2, x_gI, x_gL, x_gR, x_g1, x_g0, x_gP, x_pI, x_pZ, x_pL, x_pP, x_al, x_as, x_all, x_asl, x_alr, x_len, x_cpy, x_m2, x_m1, x_m2l, x_m1l, x_call, x_cv, x_ri, x_rz, x_rl, x_rv, zg, zset, zbef, zlong, zcat, cond_true, cond_false, List.take, List.drop, rv1, rv2, rv3, rv4, rv5, rv6, rv7, sm0, sm1, bl0, bl1, bl2, bl3, bl4, bl5, bl6, bl7, bl8, List.nil_append, List.cons_append, List.length_cons, List.length_nil, Nat.reduceBEq, Nat.reduceAdd, Nat.reduceSub, ta, tb, tn0, tn1, tn2, tn3, tn4, tn5, tn6, tn7, tn8, tn9, tn10, tn11, tn12, bX11_whose_29]
    have := hK I1 L (fr1_Q hI1) zeL2.rf
    rw [if_neg no] at this
    exact ⟨fun _ => this, fun z => absurd rfl z⟩
/-- the like is small -/
def WL (S : aS) : Prop := 0 ≤ S 13 0 ∧ S 13 0 ≤ 30
theorem r_whose {K : zQ} {I : zI} {L : zJ} {P : zP} {A : aA} {x w : Int32} (wT : WT A.T) (wL : WL A.S) (hR : RR A I L) (hK : ∀ (I' : zI) (L' : zJ), frR I I' → zeLr L L' → K [.inl (v_whose A x w)] (I', L', P)) : mX12_whose K [refR, .inl x, .inl w] (I, L, P) := by
  unfold v_whose at hK
  show bX12_whose_0 K [some (.inr (.inr (12,0))), some (.inl x), some (.inl w), none] [] (I, L, P)
  unfold bX12_whose_0
  obtain ⟨I1, e9, hR1, f1⟩ := r_thr P hR
  dsimp only [x_ald, x_int, x_pI, zg, Nat.reduceBEq, cond_true]
  rw [e9]
  dsimp only [x_int, x_lng, x_ild, x_lld, x_ald, x_ist, x_ast, x_lst, x_inc, x_ii, x_id, x_i, x_ll, x_ld, x_l, x_cmp, x_i2l, x_l2i, x_if, x_ic, x_dup, x_pop, x_dup2, x_gI, x_gL, x_gR, x_g1, x_g0, x_gP, x_pI, x_pZ, x_pL, x_pP, x_al, x_as, x_all, x_asl, x_alr, x_len, x_cpy, x_m2, x_m1, x_m2l, x_m1l, x_call, x_cv, x_ri, x_rz, x_rl, x_rv, zg, zset, zbef, zlong, zcat, cond_true, cond_false, List.take, List.drop, rv1, rv2, rv3, rv4, rv5, rv6, rv7, sm0, sm1, bl0, bl1, bl2, bl3, bl4, bl5, bl6, bl7, bl8, List.nil_append, List.cons_append, List.length_cons, List.length_nil, Nat.reduceBEq, Nat.reduceAdd, Nat.reduceSub, ta, tb, tn0, tn1, tn2, tn3, tn4, tn5, tn6, tn7, tn8, tn9, tn10, tn11, tn12]
  refine p_isKnock (fun ok I2 hI2 hg => ?_) (fun no I2 hI2 => ?_)
  · have f2 := f1.tr (fr1_R hI2)
    have hR2 := hR1.q (fr1_R hI2) zeLr.rf
    have hT := hR2.1
    have hS := hR2.2.1
    have hp := hR2.2.2.1
    have h6 := hT.h6
    have w4 := hT.w4
    dsimp only [x_int, x_lng, x_ild, x_lld, x_ald, x_ist, x_ast, x_lst, x_inc, x_ii, x_id, x_i, x_ll, x_ld, x_l, x_cmp, x_i2l, x_l2i, x_if, x_ic, x_dup, x_pop, x_dup2, x_gI, x_gL, x_gR, x_g1, x_g0, x_gP, x_pI, x_pZ, x_pL, x_pP, x_al, x_as, x_all, x_asl, x_alr, x_len, x_cpy, x_m2, x_m1, x_m2l, x_m1l, x_call, x_cv, x_ri, x_rz, x_rl, x_rv, zg, zset, zbef, zlong, zcat, cond_true, cond_false, List.take, List.drop, rv1, rv2, rv3, rv4, rv5, rv6, rv7, sm0, sm1, bl0, bl1, bl2, bl3, bl4, bl5, bl6, bl7, bl8, List.nil_append, List.cons_append, List.length_cons, List.length_nil, Nat.reduceBEq, Nat.reduceAdd, Nat.reduceSub, ta, tb, tn0, tn1, tn2, tn3, tn4, tn5, tn6, tn7, tn8, tn9, tn10, tn11, tn12]
    refine ⟨fun z => absurd z (by decide), fun _ => p_isWoodR hT (fun ok2 => ?_) (fun no => ?_)⟩
    · dsimp only [x_int, x_lng, x_ild, x_lld, x_ald, x_ist, x_ast, x_lst, x_inc, x_ii, x_id, x_i, x_ll, x_ld, x_l, x_cmp, x_i2l, x_l2i, x_if, x_ic, x_dup, x_pop, x_dup2, x_gI, x_gL, x_gR, x_g1, x_g0, x_gP, x_pI, x_pZ, x_pL, x_pP, x_al, x_as, x_all, x_asl, x_alr, x_len, x_cpy, x_m2, x_m1, x_m2l, x_m1l, x_call, x_cv, x_ri, x_rz, x_rl, x_rv, zg, zset, zbef, zlong, zcat, cond_true, cond_false, List.take, List.drop, rv1, rv2, rv3, rv4, rv5, rv6, rv7, sm0, sm1, bl0, bl1, bl2, bl3, bl4, bl5, bl6, bl7, bl8, List.nil_append, List.cons_append, List.length_cons, List.length_nil, Nat.reduceBEq, Nat.reduceAdd, Nat.reduceSub, ta, tb, tn0, tn1, tn2, tn3, tn4, tn5, tn6, tn7, tn8, tn9, tn10, tn11, tn12, bX12_whose_28]
      rw [hT.1.1]
      refine ⟨fun z => absurd z (by decide), fun _ => ⟨fun e => ?_, fun e => ?_⟩⟩
      · have e : nI (A.T.1 0) = nI 0 := e
        rw [n_eq (by omega) (by omega)] at e
        have := hK I2 L f2 zeLr.rf
        rw [if_pos ok, if_pos ok2, if_pos e] at this
        exact this
      · have e : ¬ A.T.1 0 = 0 := fun q => e (by rw [q]; rfl)
        obtain ⟨y, rfl, hy⟩ := ok_of (by omega) ok2
        rw [if_pos ok, if_pos ok2, if_neg e, n_cl (n := y) (by omega)] at hK
        refine p_plainTried hp ?_
        dsimp only [x_int, x_lng, x_ild, x_lld, x_ald, x_ist, x_ast, x_lst, x_inc, x_ii, x_id, x_i, x_ll, x_ld, x_l, x_cmp, x_i2l, x_l2i, x_if, x_ic, x_dup, x_pop, x_dup2, x_gI, x_gL, x_gR, x_g1, x_g0, x_gP, x_pI, x_pZ, x_pL, x_pP, x_al, x_as, x_all, x_asl, x_alr, x_len, x_cpy, x_m2, x_m1, x_m2l, x_m1l, x_call, x_cv, x_ri, x_rz, x_rl, x_rv, zg, zset, zbef, zlong, zcat, cond_true, cond_false, List.take, List.drop, rv1, rv2, rv3, rv4, rv5, rv6, rv7, sm0, sm1, bl0, bl1, bl2, bl3, bl4, bl5, bl6, bl7, bl8, List.nil_append, List.cons_append, List.length_cons, List.length_nil, Nat.reduceBEq, Nat.reduceAdd, Nat.reduceSub, ta, tb, tn0, tn1, tn2, tn3, tn4, tn5, tn6, tn7, tn8, tn9, tn10, tn11, tn12]
        refine p_boundBy (b := 0) (by decide) hT hS wT wL hy hg (gSm_knK _) (fun I3 L3 hI3 hL3 => ?_)
        dsimp only [x_int, x_lng, x_ild, x_lld, x_ald, x_ist, x_ast, x_lst, x_inc, x_ii, x_id, x_i, x_ll, x_ld, x_l, x_cmp, x_i2l, x_l2i, x_if, x_ic, x_dup, x_pop, x_dup2, x_gI, x_gL, x_gR, x_g1, x_g0, x_gP, x_pI, x_pZ, x_pL, x_pP, x_al, x_as, x_all, x_asl, x_alr, x_len, x_cpy, x_m2, x_m1, x_m2l, x_m1l, x_call, x_cv, x_ri, x_rz, x_rl, x_rv, zg, zset, zbef, zlong, zcat, cond_true, cond_false, List.take, List.drop, rv1, rv2, rv3, rv4, rv5, rv6, rv7, sm0, sm1, bl0, bl1, bl2, bl3, bl4, bl5, bl6, bl7, bl8, List.nil_append, List.cons_append, List.length_cons, List.length_nil, Nat.reduceBEq, Nat.reduceAdd, Nat.reduceSub, ta, tb, tn0, tn1, tn2, tn3, tn4, tn5, tn6, tn7, tn8, tn9, tn10, tn11, tn12, bX12_whose_51]
        have := hK I3 L3 (f2.tr (frE_R hI3)) hL3
        cases ew : whof A.T A.S y (knK x.toNatClampNeg) with
        | none =>
          rw [ew] at this
          exact ⟨fun c => absurd c (by decide), fun _ => this⟩
        | some b =>
          rw [ew] at this
          have := whof_lt ew
          refine ⟨fun _ => by assumption, fun c => ?_⟩
          have c : ¬ nI 0 ≤ nI b := c
          rw [n_le (by omega) (by omega)] at c
          omega
    · dsimp only [x_int, x_lng, x_ild, x_lld, x_ald, x_ist, x_ast, x_lst, x_inc, x_ii, x_id, x_i, x_ll, x_ld, x_l, x_cmp, x_i2l, x_l2i, x_if, x_ic, x_dup, x_pop, x_dup2, x_gI, x_gL, x_gR, x_g1, x_g0, x_gP, x_pI, x_pZ, x_pL, x_pP, x_al, x_as, x_all, x_asl, x_alr, x_len, x_cpy, x_m2, x_m1, x_m2l, x_m1l, x_call, x_cv, x_ri, x_rz, x_rl, x_rv, zg, zset, zbef, zlong, zcat, cond_true, cond_false, List.take, List.drop, rv1, rv2, rv3, rv4, rv5, rv6, rv7, sm0, sm1, bl0, bl1, bl2, bl3, bl4, bl5, bl6, bl7, bl8, List.nil_append, List.cons_append, List.length_cons, List.length_nil, Nat.reduceBEq, Nat.reduceAdd, Nat.reduceSub, ta, tb, tn0, tn1, tn2, tn3, tn4, tn5, tn6, tn7, tn8, tn9, tn10, tn11, tn12, bX12_whose_28]
      have := hK I2 L f2 zeLr.rf
      rw [if_pos ok, if_neg no] at this
      exact ⟨fun _ => this, fun z => absurd rfl z⟩
  · dsimp only [x_int, x_lng, x_ild, x_lld, x_ald, x_ist, x_ast, x_lst, x_inc, x_ii, x_id, x_i, x_ll, x_ld, x_l, x_cmp, x_i2l, x_l2i, x_if, x_ic, x_dup, x_pop, x_dup2, x_gI, x_gL, x_gR, x_g1, x_g0, x_gP, x_pI, x_pZ, x_pL, x_pP, x_al, x_as, x_all, x_asl, x_alr, x_len, x_cpy, x_m2, x_m1, x_m2l, x_m1l, x_call, x_cv, x_ri, x_rz, x_rl, x_rv, zg, zset, zbef, zlong, zcat, cond_true, cond_false, List.take, List.drop, rv1, rv2, rv3, rv4, rv5, rv6, rv7, sm0, sm1, bl0, bl1, bl2, bl3, bl4, bl5, bl6, bl7, bl8, List.nil_append, List.cons_append, List.length_cons, List.length_nil, Nat.reduceBEq, Nat.reduceAdd, Nat.reduceSub, ta, tb, tn0, tn1, tn2, tn3, tn4, tn5, tn6, tn7, tn8, tn9, tn10, tn11, tn12, bX12_whose_28]
    have := hK I2 L (f1.tr (fr1_R hI2)) zeLr.rf
    rw [if_neg no] at this
    exact ⟨fun _ => this, fun z => absurd rfl z⟩
-- all
def cSo (T : aT) (g : Nat → Int32) (h : Nat) : Nat → Bool
  | 0 => true
  | k + 1 => cSo T g h k && decide (g k = T.2.1 3 (6 * h + k) ∨ g k = T.2.1 3 (6 * h + k) + 1)
theorem cSo_no {T : aT} {g : Nat → Int32} {h : Nat} : ∀ {m i : Nat}, i < m → cSo T g h (i + 1) = false → cSo T g h m = false := by
  intro m
  induction m with
  | zero => intro i h; omega
  | succ m ih =>
    intro i hi h9
    by_cases e : i = m
    · subst e; exact h9
    · have := ih (i := i) (by omega) h9
      unfold cSo
      rw [this]; rfl
theorem p_canSound {K : zQ} {I : zI} {L : zJ} {P : zP} {T : aT} {x h : Nat} {g : Nat → Int32} (hb : ∀ k, k < 6 → I 14 x k = T.2.1 3 (6 * h + k)) (hg : ∀ k, k < 6 → I 48 0 k = g k) (hK : K [.inl (if cSo T g h 6 = true then 1 else 0)] (I, L, P)) : mX1_canSound K [.inr (.inr (1, x)), .inr (.inr (48, 0))] (I, L, P) := by
  show bX1_canSound_2 K [some (.inr (.inr (1, x))), some (.inr (.inr (48, 0))), some (.inl 0)] [] (I, L, P)
  refine zinv 6 (fun k Z M => Z = [some (.inr (.inr (1, x))), some (.inr (.inr (48, 0))), some (.inl (nI k))] ∧ M = (I, L, P) ∧ cSo T g h k = true) ?_ ?_ ⟨rfl, rfl, rfl⟩
  · rintro k Z M hk ⟨rfl, rfl, hc⟩ self hself
    have zk : zin (nI k) 6 := n_zin hk (by decide)
    dsimp only [x_int, x_lng, x_ild, x_lld, x_ald, x_ist, x_ast, x_lst, x_inc, x_ii, x_id, x_i, x_ll, x_ld, x_l, x_cmp, x_i2l, x_l2i, x_if, x_ic, x_dup, x_pop, x_dup2, x_gI, x_gL, x_gR, x_g1, x_g0, x_gP, x_pI, x_pZ, x_pL, x_pP, x_al, x_as, x_all, x_asl, x_alr, x_len, x_cpy, x_m2, x_m1, x_m2l, x_m1l, x_call, x_cv, x_ri, x_rz, x_rl, x_rv, zg, zset, zbef, zlong, zcat, cond_true, cond_false, List.take, List.drop, rv1, rv2, rv3, rv4, rv5, rv6, rv7, sm0, sm1, bl0, bl1, bl2, bl3, bl4, bl5, bl6, bl7, bl8, List.nil_append, List.cons_append, List.length_cons, List.length_nil, Nat.reduceBEq, Nat.reduceAdd, Nat.reduceSub, ta, tb, tn0, tn1, tn2, tn3, tn4, tn5, tn6, tn7, tn8, tn9, tn10, tn11, tn12, zk_48, zl_48, zk_14, zl_14, bX1_canSound_36]
    rw [n_cl (n := k) (by omega), hb k hk, hg k hk, n_succ k]
    have yes : (g k = T.2.1 3 (6 * h + k) ∨ g k = T.2.1 3 (6 * h + k) + 1) → cSo T g h (k + 1) = true := fun c => by
      unfold cSo
      rw [hc, decide_eq_true c]; rfl
    refine ⟨fun c => absurd c (lt_go (n := 6) rfl (by omega) hk), fun _ => ⟨zk, zk, fun c => hself _ _ ⟨rfl, rfl, yes (Or.inl c)⟩, fun c => ⟨zk, zk, fun d => hself _ _ ⟨rfl, rfl, yes (Or.inr d)⟩, fun d => ⟨Or.inl rfl, ?_⟩⟩⟩⟩
    have : cSo T g h 6 = false := cSo_no hk (by
      unfold cSo
      rw [decide_eq_false (fun q => q.elim c d), Bool.and_false])
    rw [this] at hK
    exact hK
  · rintro Z M ⟨rfl, rfl, hc⟩ self
    rw [hc] at hK
    exact And.intro (fun _ => ⟨Or.inr rfl, hK⟩) (fun c => absurd c (lt_out (n := 6) rfl))
def v_all (A : aA) (x : Int32) : Int32 := if okK x then nI (bsB (fun r => decide (cSo A.T (knK x.toNatClampNeg) r 6 = true)) (A.T.1 0)) else -1
theorem c_all {K : zQ} {I : zI} {L : zJ} {P : zP} {A : aA} {x : Int32} (hC : RC A I P) (hK : ∀ (I' : zI), frQ I I' → K [.inl (v_all A x)] (I', L, P)) : mX11_all K [kbR, .inl x] (I, L, P) := by
  unfold v_all at hK
  show bX11_all_0 K [some (.inr (.inr (11,0))), some (.inl x), none, none] [] (I, L, P)
  unfold bX11_all_0
  dsimp only [x_int, x_lng, x_ild, x_lld, x_ald, x_ist, x_ast, x_lst, x_inc, x_ii, x_id, x_i, x_ll, x_ld, x_l, x_cmp, x_i2l, x_l2i, x_if, x_ic, x_dup, x_pop, x_dup2, x_gI, x_gL, x_gR, x_g1, x_g0, x_gP, x_pI, x_pZ, x_pL, x_pP, x_al, x_as, x_all, x_asl, x_alr, x_len, x_cpy, x_m2, x_m1, x_m2l, x_m1l, x_call, x_cv, x_ri, x_rz, x_rl, x_rv, zg, zset, zbef, zlong, zcat, cond_true, cond_false, List.take, List.drop, rv1, rv2, rv3, rv4, rv5, rv6, rv7, sm0, sm1, bl0, bl1, bl2, bl3, bl4, bl5, bl6, bl7, bl8, List.nil_append, List.cons_append, List.length_cons, List.length_nil, Nat.reduceBEq, Nat.reduceAdd, Nat.reduceSub, ta, tb, tn0, tn1, tn2, tn3, tn4, tn5, tn6, tn7, tn8, tn9, tn10, tn11, tn12]
  refine p_isSpread (fun ok I1 hI1 hg => ?_) (fun no I1 hI1 => ?_)
  · have hC1 := hC.q (fr1_Q hI1) frP.rf
    obtain ⟨t, hT, h11, h8, hS⟩ := hC1.b
    have h6 := hT.h6
    have hk := hK I1 (fr1_Q hI1)
    rw [if_pos ok] at hk
    refine ⟨fun z => absurd z (by decide), fun _ => ?_⟩
    show bX11_all_17 K [some kbR, some (.inl x), some (.inl 0), some (.inl 0)] [] (I1, L, P)
    refine zfor (A.T.1 0) (fun i => [some kbR, some (.inl x), some (.inl (nI (bsB (fun r => decide (cSo A.T (knK x.toNatClampNeg) r 6 = true)) i))), some (.inl (nI i))]) (fun _ => (I1, L, P)) (fun i hi self hs => ?_) (fun self => ?_)
    · have up : (cSo A.T (knK x.toNatClampNeg) i 6 = true) → self [some kbR, some (.inl x), some (.inl (nI (bsB (fun r => decide (cSo A.T (knK x.toNatClampNeg) r 6 = true)) i) ||| (1 <<< (nI i &&& 31)))), some (.inl (nI (i + 1)))] [] (I1, L, P) := fun c => by
        have e : bsB (fun r => decide (cSo A.T (knK x.toNatClampNeg) r 6 = true)) (i + 1) = bsB (fun r => decide (cSo A.T (knK x.toNatClampNeg) r 6 = true)) i + 2 ^ i := by
          show _ + (if decide (cSo A.T (knK x.toNatClampNeg) i 6 = true) = true then 2 ^ i else 0) = _
          rw [if_pos (decide_eq_true c)]
        rw [bsB_or _ (by omega), ← e]; exact hs
      have no : ¬ (cSo A.T (knK x.toNatClampNeg) i 6 = true) → self [some kbR, some (.inl x), some (.inl (nI (bsB (fun r => decide (cSo A.T (knK x.toNatClampNeg) r 6 = true)) i) ||| 0)), some (.inl (nI (i + 1)))] [] (I1, L, P) := fun c => by
        have e : bsB (fun r => decide (cSo A.T (knK x.toNatClampNeg) r 6 = true)) (i + 1) = bsB (fun r => decide (cSo A.T (knK x.toNatClampNeg) r 6 = true)) i := by
          show _ + (if decide (cSo A.T (knK x.toNatClampNeg) i 6 = true) = true then 2 ^ i else 0) = _
          rw [if_neg (fun q => c (of_decide_eq_true q))]
          rfl
        rw [e] at hs
        rw [show nI (bsB (fun r => decide (cSo A.T (knK x.toNatClampNeg) r 6 = true)) i) ||| 0 = nI (bsB (fun r => decide (cSo A.T (knK x.toNatClampNeg) r 6 = true)) i) from Int32.or_zero]
        exact hs
      rw [Int32.or_zero] at no
      dsimp only [x_int, x_lng, x_ild, x_lld, x_ald, x_ist, x_ast, x_lst, x_inc, x_ii, x_id, x_i, x_ll, x_ld, x_l, x_cmp, x_i2l, x_l2i, x_if, x_ic, x_dup, x_pop, x_dup2, x_gI, x_gL, x_gR, x_g1, x_g0, x_gP, x_pI, x_pZ, x_pL, x_pP, x_al, x_as, x_all, x_asl, x_alr, x_len, x_cpy, x_m2, x_m1, x_m2l, x_m1l, x_call, x_cv, x_ri, x_rz, x_rl, x_rv, zg, zset, zbef, zlong, zcat, cond_true, cond_false, List.take, List.drop, rv1, rv2, rv3, rv4, rv5, rv6, rv7, sm0, sm1, bl0, bl1, bl2, bl3, bl4, bl5, bl6, bl7, bl8, List.nil_append, List.cons_append, List.length_cons, List.length_nil, Nat.reduceBEq, Nat.reduceAdd, Nat.reduceSub, ta, tb, tn0, tn1, tn2, tn3, tn4, tn5, tn6, tn7, tn8, tn9, tn10, tn11, tn12, zl_43]
      rw [h11, n_cl (n := i) (by omega)]
      refine ⟨hT.1, fun c => absurd c (lt_go hT.2.1.1 (by omega) hi), fun _ => ⟨hT.1, n_zin (by omega) (by decide), p_canSound (hT.hand hi).2.2.2 hg ?_⟩⟩
      dsimp only [x_int, x_lng, x_ild, x_lld, x_ald, x_ist, x_ast, x_lst, x_inc, x_ii, x_id, x_i, x_ll, x_ld, x_l, x_cmp, x_i2l, x_l2i, x_if, x_ic, x_dup, x_pop, x_dup2, x_gI, x_gL, x_gR, x_g1, x_g0, x_gP, x_pI, x_pZ, x_pL, x_pP, x_al, x_as, x_all, x_asl, x_alr, x_len, x_cpy, x_m2, x_m1, x_m2l, x_m1l, x_call, x_cv, x_ri, x_rz, x_rl, x_rv, zg, zset, zbef, zlong, zcat, cond_true, cond_false, List.take, List.drop, rv1, rv2, rv3, rv4, rv5, rv6, rv7, sm0, sm1, bl0, bl1, bl2, bl3, bl4, bl5, bl6, bl7, bl8, List.nil_append, List.cons_append, List.length_cons, List.length_nil, Nat.reduceBEq, Nat.reduceAdd, Nat.reduceSub, ta, tb, tn0, tn1, tn2, tn3, tn4, tn5, tn6, tn7, tn8, tn9, tn10, tn11, tn12, bX11_all_53]
      rw [n_succ i]
      by_cases e : cSo A.T (knK x.toNatClampNeg) i 6 = true
      · rw [if_pos e]; exact ⟨fun z => absurd z (by decide), fun _ => up e⟩
      · rw [if_neg e]; exact ⟨fun _ => no e, fun z => absurd rfl z⟩
    · dsimp only [x_int, x_lng, x_ild, x_lld, x_ald, x_ist, x_ast, x_lst, x_inc, x_ii, x_id, x_i, x_ll, x_ld, x_l, x_cmp, x_i2l, x_l2i, x_if, x_ic, x_dup, x_pop, x_dup2, x_gI, x_gL, x_gR, x_g1, x_g0, x_gP, x_pI, x_pZ, x_pL, x_pP, x_al, x_as, x_all, x_asl, x_alr, x_len, x_cpy, x_m2, x_m1, x_m2l, x_m1l, x_call, x_cv, x_ri, x_rz, x_rl, x_rv, zg, zset, zbef, zlong, zcat, cond_true, cond_false, List.take, List.drop, rv1, rv2, rv3, rv4, rv5, rv6, rv7, sm0, sm1, bl0, bl1, bl2, bl3, bl4, bl5, bl6, bl7, bl8, List.nil_append, List.cons_append, List.length_cons, List.length_nil, Nat.reduceBEq, Nat.reduceAdd, Nat.reduceSub, ta, tb, tn0, tn1, tn2, tn3, tn4, tn5, tn6, tn7, tn8, tn9, tn10, tn11, tn12]
      rw [h11]
      exact ⟨hT.1, fun _ => hk, fun c => absurd c (lt_out hT.2.1.1)⟩
  · have hk := hK I1 (fr1_Q hI1)
    rw [if_neg no] at hk
    exact ⟨fun _ => hk, fun z => absurd rfl z⟩
theorem cs_in : ∀ y, y < 10 → ∀ b, b < 5 → (okI (nI y - nI b) 0 1 ↔ (nI y = nI b ∨ nI y = nI b + 1)) := by decide +kernel
theorem r_all {K : zQ} {I : zI} {L : zJ} {P : zP} {A : aA} {x : Int32} (wT : WT A.T) (hR : RR A I L) (hK : ∀ (I' : zI) (L' : zJ), frR I I' → zeLr L L' → K [.inl (v_all A x)] (I', L', P)) : mX12_all K [refR, .inl x] (I, L, P) := by
  unfold v_all at hK
  show bX12_all_0 K [some (.inr (.inr (12,0))), some (.inl x), none, none, none, none] [] (I, L, P)
  unfold bX12_all_0
  obtain ⟨I1, e9, hR1, f1⟩ := r_thr P hR
  dsimp only [x_ald, x_int, x_pI, zg, Nat.reduceBEq, cond_true]
  rw [e9]
  dsimp only [x_int, x_lng, x_ild, x_lld, x_ald, x_ist, x_ast, x_lst, x_inc, x_ii, x_id, x_i, x_ll, x_ld, x_l, x_cmp, x_i2l, x_l2i, x_if, x_ic, x_dup, x_pop, x_dup2, x_gI, x_gL, x_gR, x_g1, x_g0, x_gP, x_pI, x_pZ, x_pL, x_pP, x_al, x_as, x_all, x_asl, x_alr, x_len, x_cpy, x_m2, x_m1, x_m2l, x_m1l, x_call, x_cv, x_ri, x_rz, x_rl, x_rv, zg, zset, zbef, zlong, zcat, cond_true, cond_false, List.take, List.drop, rv1, rv2, rv3, rv4, rv5, rv6, rv7, sm0, sm1, bl0, bl1, bl2, bl3, bl4, bl5, bl6, bl7, bl8, List.nil_append, List.cons_append, List.length_cons, List.length_nil, Nat.reduceBEq, Nat.reduceAdd, Nat.reduceSub, ta, tb, tn0, tn1, tn2, tn3, tn4, tn5, tn6, tn7, tn8, tn9, tn10, tn11, tn12]
  refine p_isKnock (fun ok I2 hI2 hg => ?_) (fun no I2 hI2 => ?_)
  · have f2 := f1.tr (fr1_R hI2)
    have hR2 := hR1.q (fr1_R hI2) zeLr.rf
    have hT := hR2.1
    have h6 := hT.h6
    have hk := hK I2 L f2 zeLr.rf
    rw [if_pos ok] at hk
    refine ⟨fun z => absurd z (by decide), fun _ => ?_⟩
    show bX12_all_19 K [some refR, some (.inl x), some (.inl 0), some (.inl 0), none, none] [] (I2, L, P)
    refine zinv (A.T.1 0) (fun i Z M => ∃ z4 z5 : Option zV, Z = [some refR, some (.inl x), some (.inl (nI (bsB (fun r => decide (cSo A.T (knK x.toNatClampNeg) r 6 = true)) i))), some (.inl (nI i)), z4, z5] ∧ M = (I2, L, P)) ?_ ?_ ⟨none, none, rfl, rfl⟩
    · rintro i Z M hi ⟨z4, z5, rfl, rfl⟩ self hself
      dsimp only [x_int, x_lng, x_ild, x_lld, x_ald, x_ist, x_ast, x_lst, x_inc, x_ii, x_id, x_i, x_ll, x_ld, x_l, x_cmp, x_i2l, x_l2i, x_if, x_ic, x_dup, x_pop, x_dup2, x_gI, x_gL, x_gR, x_g1, x_g0, x_gP, x_pI, x_pZ, x_pL, x_pP, x_al, x_as, x_all, x_asl, x_alr, x_len, x_cpy, x_m2, x_m1, x_m2l, x_m1l, x_call, x_cv, x_ri, x_rz, x_rl, x_rv, zg, zset, zbef, zlong, zcat, cond_true, cond_false, List.take, List.drop, rv1, rv2, rv3, rv4, rv5, rv6, rv7, sm0, sm1, bl0, bl1, bl2, bl3, bl4, bl5, bl6, bl7, bl8, List.nil_append, List.cons_append, List.length_cons, List.length_nil, Nat.reduceBEq, Nat.reduceAdd, Nat.reduceSub, ta, tb, tn0, tn1, tn2, tn3, tn4, tn5, tn6, tn7, tn8, tn9, tn10, tn11, tn12]
      refine ⟨fun c => absurd c (lt_go hT.1.1 (by omega) hi), fun _ => ?_⟩
      refine zinv 6 (fun k Z M => Z = [some refR, some (.inl x), some (.inl (nI (bsB (fun r => decide (cSo A.T (knK x.toNatClampNeg) r 6 = true)) i))), some (.inl (nI i)), some (.inl (if cSo A.T (knK x.toNatClampNeg) i k = true then 1 else 0)), some (.inl (nI k))] ∧ M = (I2, L, P)) ?_ ?_ ⟨rfl, rfl⟩
      · rintro k Z M hk ⟨rfl, rfl⟩ self2 hself2
        have es : cSo A.T (knK x.toNatClampNeg) i (k + 1) = (cSo A.T (knK x.toNatClampNeg) i k && decide (knK x.toNatClampNeg k = A.T.2.1 3 (6 * i + k) ∨ knK x.toNatClampNeg k = A.T.2.1 3 (6 * i + k) + 1)) := rfl
        have fin : ∀ v : Int32, v = (if cSo A.T (knK x.toNatClampNeg) i (k + 1) = true then 1 else 0) → self2 [some refR, some (.inl x), some (.inl (nI (bsB (fun r => decide (cSo A.T (knK x.toNatClampNeg) r 6 = true)) i))), some (.inl (nI i)), some (.inl v), some (.inl (nI (k + 1)))] [] (I2, L, P) := fun v hv => hself2 _ _ ⟨by rw [hv], rfl⟩
        obtain ⟨y, hy, ey⟩ := gSm_knK x.toNatClampNeg k hk
        obtain ⟨b, -, hb, eb⟩ := wT.2.1 i hi k hk
        have hin := cs_in y (by omega) b (by omega)
        rw [← ey, ← eb] at hin
        dsimp only [x_int, x_lng, x_ild, x_lld, x_ald, x_ist, x_ast, x_lst, x_inc, x_ii, x_id, x_i, x_ll, x_ld, x_l, x_cmp, x_i2l, x_l2i, x_if, x_ic, x_dup, x_pop, x_dup2, x_gI, x_gL, x_gR, x_g1, x_g0, x_gP, x_pI, x_pZ, x_pL, x_pP, x_al, x_as, x_all, x_asl, x_alr, x_len, x_cpy, x_m2, x_m1, x_m2l, x_m1l, x_call, x_cv, x_ri, x_rz, x_rl, x_rv, zg, zset, zbef, zlong, zcat, cond_true, cond_false, List.take, List.drop, rv1, rv2, rv3, rv4, rv5, rv6, rv7, sm0, sm1, bl0, bl1, bl2, bl3, bl4, bl5, bl6, bl7, bl8, List.nil_append, List.cons_append, List.length_cons, List.length_nil, Nat.reduceBEq, Nat.reduceAdd, Nat.reduceSub, ta, tb, tn0, tn1, tn2, tn3, tn4, tn5, tn6, tn7, tn8, tn9, tn10, tn11, tn12, zk_87, zl_87, zk_58, zl_58, bX12_all_77, bX12_all_78]
        rw [n6, n_cl (n := k) (by omega), n_cl (n := 6 * i + k) (by omega), hg k hk, (hT.hand hi).2.2.2 k hk, n_succ k]
        refine ⟨fun c => absurd c (lt_go (n := 6) rfl (by omega) hk), fun _ => ⟨fun c => fin 0 ?_, fun c => ⟨n_zin (by omega) (by decide), n_zin (by omega) (by decide), p_isIn (fun ok2 => ?_) (fun no => ?_)⟩⟩⟩
        · by_cases e : cSo A.T (knK x.toNatClampNeg) i k = true
          · rw [if_pos e] at c; exact absurd c (by decide)
          · rw [es]; simp [e]
        · dsimp only [x_int, x_lng, x_ild, x_lld, x_ald, x_ist, x_ast, x_lst, x_inc, x_ii, x_id, x_i, x_ll, x_ld, x_l, x_cmp, x_i2l, x_l2i, x_if, x_ic, x_dup, x_pop, x_dup2, x_gI, x_gL, x_gR, x_g1, x_g0, x_gP, x_pI, x_pZ, x_pL, x_pP, x_al, x_as, x_all, x_asl, x_alr, x_len, x_cpy, x_m2, x_m1, x_m2l, x_m1l, x_call, x_cv, x_ri, x_rz, x_rl, x_rv, zg, zset, zbef, zlong, zcat, cond_true, cond_false, List.take, List.drop, rv1, rv2, rv3, rv4, rv5, rv6, rv7, sm0, sm1, bl0, bl1, bl2, bl3, bl4, bl5, bl6, bl7, bl8, List.nil_append, List.cons_append, List.length_cons, List.length_nil, Nat.reduceBEq, Nat.reduceAdd, Nat.reduceSub, ta, tb, tn0, tn1, tn2, tn3, tn4, tn5, tn6, tn7, tn8, tn9, tn10, tn11, tn12, bX12_all_77, bX12_all_78]
          try rw [n_succ k]
          refine ⟨fun z => absurd z (by decide), fun _ => fin 1 ?_⟩
          by_cases e : cSo A.T (knK x.toNatClampNeg) i k = true
          · rw [es, e, decide_eq_true (hin.mp ok2)]; rfl
          · rw [if_neg e] at c; exact absurd rfl c
        · dsimp only [x_int, x_lng, x_ild, x_lld, x_ald, x_ist, x_ast, x_lst, x_inc, x_ii, x_id, x_i, x_ll, x_ld, x_l, x_cmp, x_i2l, x_l2i, x_if, x_ic, x_dup, x_pop, x_dup2, x_gI, x_gL, x_gR, x_g1, x_g0, x_gP, x_pI, x_pZ, x_pL, x_pP, x_al, x_as, x_all, x_asl, x_alr, x_len, x_cpy, x_m2, x_m1, x_m2l, x_m1l, x_call, x_cv, x_ri, x_rz, x_rl, x_rv, zg, zset, zbef, zlong, zcat, cond_true, cond_false, List.take, List.drop, rv1, rv2, rv3, rv4, rv5, rv6, rv7, sm0, sm1, bl0, bl1, bl2, bl3, bl4, bl5, bl6, bl7, bl8, List.nil_append, List.cons_append, List.length_cons, List.length_nil, Nat.reduceBEq, Nat.reduceAdd, Nat.reduceSub, ta, tb, tn0, tn1, tn2, tn3, tn4, tn5, tn6, tn7, tn8, tn9, tn10, tn11, tn12, bX12_all_77, bX12_all_78]
          try rw [n_succ k]
          refine ⟨fun _ => fin 0 ?_, fun z => absurd rfl z⟩
          rw [es, decide_eq_false (fun q => no (hin.mpr q)), Bool.and_false]; rfl
      · rintro Z M ⟨rfl, rfl⟩ self2
        have hs : ∀ v : Int32, v = nI (bsB (fun r => decide (cSo A.T (knK x.toNatClampNeg) r 6 = true)) (i + 1)) → self [some refR, some (.inl x), some (.inl v), some (.inl (nI (i + 1))), some (.inl (if cSo A.T (knK x.toNatClampNeg) i 6 = true then 1 else 0)), some (.inl (nI 6))] [] (I2, L, P) := fun v hv => by subst hv; exact hself _ _ ⟨_, _, rfl, rfl⟩
        have e1 : bsB (fun r => decide (cSo A.T (knK x.toNatClampNeg) r 6 = true)) (i + 1) = bsB (fun r => decide (cSo A.T (knK x.toNatClampNeg) r 6 = true)) i + (if decide (cSo A.T (knK x.toNatClampNeg) i 6 = true) = true then 2 ^ i else 0) := rfl
        dsimp only [x_int, x_lng, x_ild, x_lld, x_ald, x_ist, x_ast, x_lst, x_inc, x_ii, x_id, x_i, x_ll, x_ld, x_l, x_cmp, x_i2l, x_l2i, x_if, x_ic, x_dup, x_pop, x_dup2, x_gI, x_gL, x_gR, x_g1, x_g0, x_gP, x_pI, x_pZ, x_pL, x_pP, x_al, x_as, x_all, x_asl, x_alr, x_len, x_cpy, x_m2, x_m1, x_m2l, x_m1l, x_call, x_cv, x_ri, x_rz, x_rl, x_rv, zg, zset, zbef, zlong, zcat, cond_true, cond_false, List.take, List.drop, rv1, rv2, rv3, rv4, rv5, rv6, rv7, sm0, sm1, bl0, bl1, bl2, bl3, bl4, bl5, bl6, bl7, bl8, List.nil_append, List.cons_append, List.length_cons, List.length_nil, Nat.reduceBEq, Nat.reduceAdd, Nat.reduceSub, ta, tb, tn0, tn1, tn2, tn3, tn4, tn5, tn6, tn7, tn8, tn9, tn10, tn11, tn12, bX12_all_99]
        rw [n_succ i]
        refine ⟨fun _ => ⟨fun c => ?_, fun c => ?_⟩, fun c => absurd c (lt_out (n := 6) rfl)⟩
        · refine hs _ ?_
          by_cases e : cSo A.T (knK x.toNatClampNeg) i 6 = true
          · rw [if_pos e] at c; exact absurd c (by decide)
          · rw [e1, Int32.or_zero, if_neg (by simp [e])]; rfl
        · refine hs _ ?_
          by_cases e : cSo A.T (knK x.toNatClampNeg) i 6 = true
          · rw [e1, bsB_or _ (by omega), if_pos (by simp [e])]
          · rw [if_neg e] at c; exact absurd rfl c
    · rintro Z M ⟨z4, z5, rfl, rfl⟩ self
      dsimp only [x_int, x_lng, x_ild, x_lld, x_ald, x_ist, x_ast, x_lst, x_inc, x_ii, x_id, x_i, x_ll, x_ld, x_l, x_cmp, x_i2l, x_l2i, x_if, x_ic, x_dup, x_pop, x_dup2, x_gI, x_gL, x_gR, x_g1, x_g0, x_gP, x_pI, x_pZ, x_pL, x_pP, x_al, x_as, x_all, x_asl, x_alr, x_len, x_cpy, x_m2, x_m1, x_m2l, x_m1l, x_call, x_cv, x_ri, x_rz, x_rl, x_rv, zg, zset, zbef, zlong, zcat, cond_true, cond_false, List.take, List.drop, rv1, rv2, rv3, rv4, rv5, rv6, rv7, sm0, sm1, bl0, bl1, bl2, bl3, bl4, bl5, bl6, bl7, bl8, List.nil_append, List.cons_append, List.length_cons, List.length_nil, Nat.reduceBEq, Nat.reduceAdd, Nat.reduceSub, ta, tb, tn0, tn1, tn2, tn3, tn4, tn5, tn6, tn7, tn8, tn9, tn10, tn11, tn12]
      exact ⟨fun _ => hk, fun c => absurd c (lt_out hT.1.1)⟩
  · have hk := hK I2 L (f1.tr (fr1_R hI2)) zeLr.rf
    rw [if_neg no] at hk
    exact ⟨fun _ => hk, fun z => absurd rfl z⟩
