theorem p_signs {K : zQ} {I : zI} {L : zJ} {P : zP} {B : Nat → Nat} {n a i cnt : Nat} {cs : List Int32} {ws : List Nat} {mn : Bool} (hp : RTp B n I) (hX : XR B n a (i, cs, ws, false, mn, cnt) I) (hI : XI a (i, cs, ws, false, mn, cnt)) (hK : ∀ (I' : zI) (b : Int32), ony (sK a) I I' → rout B n a i I' b (xst B n (i, cs, ws, false, mn, cnt)) → K [.inl b] (I', L, P)) : mX12_signs K [refR] (I, L, P) := by
  have l72 := hI.l72
  obtain ⟨i1, -, i3, i4, i5, i6⟩ := hI
  obtain ⟨x1, x2, x3, x4, x5, hs, hB, hl, hd⟩ := hX
  dsimp only at l72 i1 i3 i4 i5 i6 x1 x2 x3 x4 x5 hB hl hd
  have hd := hd rfl
  have ol := opn_le ws
  have hl : hs.length = nbW ws + 1 := hl
  have kl : kd B n i ≤ 35 := kd_le B n i
  have sum64 : a + cs.length + (ws.length - opn ws) ≤ 64 := by omega
  have xs : xst B n (i, cs, ws, false, mn, cnt) = (if kd B n i = 23 ∧ 0 < opn ws then .inr (.inr (i + 1, cs ++ (popC 1 ws).1, (popC 1 ws).2.tail, false, mn, cnt))
    else if isB (kd B n i) then
      (if rkC (kd B n i) = 4 ∧ cmT ws = true then .inl (1, i)
      else if cnt = 64 then .inl (2, i)
      else .inr (.inr (i + 1, cs ++ (popC (rkC (kd B n i)) ws).1, kd B n i :: (popC (rkC (kd B n i)) ws).2, true, decide (kd B n i = 9 ∨ kd B n i = 10), cnt + 1)))
    else if 0 < opn ws then .inl (1, i)
    else .inr (.inl (i, cs ++ (popC 1 ws).1, cnt))) := rfl
  have bad : ∀ (J I1 : zI) (e : Nat), ony (sK a) I J → ony (fun a c => a = 12 ∧ (c = 4 ∨ c = 5)) J I1 → stR B n (.inr (e, i)) I1 → xst B n (i, cs, ws, false, mn, cnt) = .inl (e, i) → K [.inl 0] (I1, L, P) := fun J I1 e f0 f1 s1 xe => hK I1 0 (f0.tr (f1.mono (fun b c u => by unfold sK; omega))) (by rw [xe]; exact ⟨rfl, s1⟩)
  -- a sign that waits
  have s217 : isB (kd B n i) → ¬ (rkC (kd B n i) = 4 ∧ cmT ws = true) → ∀ (I1 : zI) (hs1 : List Nat) (r : Nat), 1 ≤ r → ony (bK a) I I1 → popC r ws = popC (rkC (kd B n i)) ws → XB I1 a (cs ++ (popC r ws).1) (popC r ws).2 hs1 → hs1.length = nbW (popC r ws).2 + 1 → bX12_signs_217 K [some refR, some (.inl (nI (kc (kd B n i))))] [] (I1, L, P) := fun ib nc I1 hs1 r r1 f1 pe hB1 hl1 => by
    have sk : sgK (kd B n i) := Or.inl ib
    obtain ⟨k1, k6, k3, k22, kno⟩ := rkC_b ib
    rw [if_neg (fun u => by unfold isB at ib; omega), if_pos ib, if_neg nc] at xs
    rw [← pe] at xs
    have po := popC_opn (r := r) r1 (ws := ws)
    have pl := popC_len (r := r) (ws := ws)
    have nl := nbW_le (popC r ws).2
    obtain ⟨b1, b2, b3, b4, b5, b6⟩ := hB1
    have t1 : tkR B n i I1 := x1.q (fun q u1 u2 => f1.lo (fun v => by unfold bK at v; omega))
    unfold bX12_signs_217
    dsimp only [x_int, x_lng, x_ild, x_lld, x_ald, x_ist, x_ast, x_lst, x_inc, x_ii, x_id, x_i, x_ll, x_ld, x_l, x_cmp, x_i2l, x_l2i, x_if, x_ic, x_dup, x_pop, x_dup2, x_gI, x_gL, x_gR, x_g1, x_g0, x_gP, x_pI, x_pZ, x_pL, x_pP, x_al, x_as, x_all, x_asl, x_alr, x_len, x_cpy, x_m2, x_m1, x_m2l, x_m1l, x_call, x_cv, x_ri, x_rz, x_rl, x_rv, zg, zset, zbef, zlong, zcat, cond_true, cond_false, List.take, List.drop, rv1, rv2, rv3, rv4, rv5, rv6, rv7, sm0, sm1, bl0, bl1, bl2, bl3, bl4, bl5, bl6, bl7, bl8, List.nil_append, List.cons_append, List.length_cons, List.length_nil, Nat.reduceBEq, Nat.reduceAdd, Nat.reduceSub, ta, tb, tn0, tn1, tn2, tn3, tn4, tn5, tn6, tn7, tn8, tn9, tn10, tn11, tn12]
    refine p_isCounted i5 t1 ((f1.lo (fun v => by unfold bK at v; omega)).trans x3) (fun c5 I2 f2 s2 => ?_) (fun c5 I2 f2 s2 => ?_)
    rotate_left
    · dsimp only [x_int, x_lng, x_ild, x_lld, x_ald, x_ist, x_ast, x_lst, x_inc, x_ii, x_id, x_i, x_ll, x_ld, x_l, x_cmp, x_i2l, x_l2i, x_if, x_ic, x_dup, x_pop, x_dup2, x_gI, x_gL, x_gR, x_g1, x_g0, x_gP, x_pI, x_pZ, x_pL, x_pP, x_al, x_as, x_all, x_asl, x_alr, x_len, x_cpy, x_m2, x_m1, x_m2l, x_m1l, x_call, x_cv, x_ri, x_rz, x_rl, x_rv, zg, zset, zbef, zlong, zcat, cond_true, cond_false, List.take, List.drop, rv1, rv2, rv3, rv4, rv5, rv6, rv7, sm0, sm1, bl0, bl1, bl2, bl3, bl4, bl5, bl6, bl7, bl8, List.nil_append, List.cons_append, List.length_cons, List.length_nil, Nat.reduceBEq, Nat.reduceAdd, Nat.reduceSub, ta, tb, tn0, tn1, tn2, tn3, tn4, tn5, tn6, tn7, tn8, tn9, tn10, tn11, tn12]
      rw [if_pos c5] at xs
      exact ⟨fun _ => ⟨Or.inl rfl, bad I1 I2 2 (bK_S f1) f2 s2 xs⟩, fun y => absurd rfl y⟩
    rw [if_neg (by omega)] at xs
    dsimp only [x_int, x_lng, x_ild, x_lld, x_ald, x_ist, x_ast, x_lst, x_inc, x_ii, x_id, x_i, x_ll, x_ld, x_l, x_cmp, x_i2l, x_l2i, x_if, x_ic, x_dup, x_pop, x_dup2, x_gI, x_gL, x_gR, x_g1, x_g0, x_gP, x_pI, x_pZ, x_pL, x_pP, x_al, x_as, x_all, x_asl, x_alr, x_len, x_cpy, x_m2, x_m1, x_m2l, x_m1l, x_call, x_cv, x_ri, x_rz, x_rl, x_rv, zg, zset, zbef, zlong, zcat, cond_true, cond_false, List.take, List.drop, rv1, rv2, rv3, rv4, rv5, rv6, rv7, sm0, sm1, bl0, bl1, bl2, bl3, bl4, bl5, bl6, bl7, bl8, List.nil_append, List.cons_append, List.length_cons, List.length_nil, Nat.reduceBEq, Nat.reduceAdd, Nat.reduceSub, ta, tb, tn0, tn1, tn2, tn3, tn4, tn5, tn6, tn7, tn8, tn9, tn10, tn11, tn12]
    refine ⟨fun y => absurd y (show ¬ (1 : Int32) = 0 by decide), fun _ => ?_⟩
    refine p_waitsFor (w := (popC r ws).2.length) (by omega) ((f2 _ _ _ (by decide)).trans b1) (fun I3 f3 s3 w3 => ?_)
    dsimp only [x_int, x_lng, x_ild, x_lld, x_ald, x_ist, x_ast, x_lst, x_inc, x_ii, x_id, x_i, x_ll, x_ld, x_l, x_cmp, x_i2l, x_l2i, x_if, x_ic, x_dup, x_pop, x_dup2, x_gI, x_gL, x_gR, x_g1, x_g0, x_gP, x_pI, x_pZ, x_pL, x_pP, x_al, x_as, x_all, x_asl, x_alr, x_len, x_cpy, x_m2, x_m1, x_m2l, x_m1l, x_call, x_cv, x_ri, x_rz, x_rl, x_rv, zg, zset, zbef, zlong, zcat, cond_true, cond_false, List.take, List.drop, rv1, rv2, rv3, rv4, rv5, rv6, rv7, sm0, sm1, bl0, bl1, bl2, bl3, bl4, bl5, bl6, bl7, bl8, List.nil_append, List.cons_append, List.length_cons, List.length_nil, Nat.reduceBEq, Nat.reduceAdd, Nat.reduceSub, ta, tb, tn0, tn1, tn2, tn3, tn4, tn5, tn6, tn7, tn8, tn9, tn10, tn11, tn12]
    obtain ⟨J4, g4, y4, f4⟩ := zsI_ex I3 L P 12 0 45 (1 : Int32)
    rw [g4]
    refine ⟨Or.inr rfl, p_rank sk ?_⟩
    have tl : ∀ b : Bool, decide (kd B n i = 9 ∨ kd B n i = 10) = b → bX12_signs_250 K [some refR, some (.inl (nI (kc (kd B n i))))] [.inl (bI b), refR] (J4, L, P) := fun b hb => by
      rw [hb] at xs
      unfold bX12_signs_250
      dsimp only [x_int, x_lng, x_ild, x_lld, x_ald, x_ist, x_ast, x_lst, x_inc, x_ii, x_id, x_i, x_ll, x_ld, x_l, x_cmp, x_i2l, x_l2i, x_if, x_ic, x_dup, x_pop, x_dup2, x_gI, x_gL, x_gR, x_g1, x_g0, x_gP, x_pI, x_pZ, x_pL, x_pP, x_al, x_as, x_all, x_asl, x_alr, x_len, x_cpy, x_m2, x_m1, x_m2l, x_m1l, x_call, x_cv, x_ri, x_rz, x_rl, x_rv, zg, zset, zbef, zlong, zcat, cond_true, cond_false, List.take, List.drop, rv1, rv2, rv3, rv4, rv5, rv6, rv7, sm0, sm1, bl0, bl1, bl2, bl3, bl4, bl5, bl6, bl7, bl8, List.nil_append, List.cons_append, List.length_cons, List.length_nil, Nat.reduceBEq, Nat.reduceAdd, Nat.reduceSub, ta, tb, tn0, tn1, tn2, tn3, tn4, tn5, tn6, tn7, tn8, tn9, tn10, tn11, tn12]
      obtain ⟨J5, g5, y5, f5⟩ := zsI_ex J4 L P 12 0 46 (bI b)
      rw [g5]
      refine ⟨by cases b; exact Or.inl rfl; exact Or.inr rfl, ?_⟩
      have fa : ony (sK a) I J5 := (bK_S f1).tr (fun b c d w => by
        rw [f5 b c d (fun v => w ⟨v.2.1, by unfold sK; omega⟩), f4 b c d (fun v => w ⟨v.2.1, by unfold sK; omega⟩), f3 b c d (fun v => w ⟨v.1, by unfold sK; omega⟩), f2 b c d (fun v => w ⟨v.1, by unfold sK; omega⟩)])
      refine p_next (hp.g (sK_G fa)) (t1.q (fun q u1 u2 => by rw [f5 _ _ _ (by omega), f4 _ _ _ (by omega), f3 _ _ _ (by omega), f2 _ _ _ (by omega)])) (fun I6 f6 t6 => ?_)
      dsimp only [x_int, x_lng, x_ild, x_lld, x_ald, x_ist, x_ast, x_lst, x_inc, x_ii, x_id, x_i, x_ll, x_ld, x_l, x_cmp, x_i2l, x_l2i, x_if, x_ic, x_dup, x_pop, x_dup2, x_gI, x_gL, x_gR, x_g1, x_g0, x_gP, x_pI, x_pZ, x_pL, x_pP, x_al, x_as, x_all, x_asl, x_alr, x_len, x_cpy, x_m2, x_m1, x_m2l, x_m1l, x_call, x_cv, x_ri, x_rz, x_rl, x_rv, zg, zset, zbef, zlong, zcat, cond_true, cond_false, List.take, List.drop, rv1, rv2, rv3, rv4, rv5, rv6, rv7, sm0, sm1, bl0, bl1, bl2, bl3, bl4, bl5, bl6, bl7, bl8, List.nil_append, List.cons_append, List.length_cons, List.length_nil, Nat.reduceBEq, Nat.reduceAdd, Nat.reduceSub, ta, tb, tn0, tn1, tn2, tn3, tn4, tn5, tn6, tn7, tn8, tn9, tn10, tn11, tn12]
      refine ⟨Or.inr rfl, hK I6 1 (fa.tr (fun b c d w => f6 b c d (fun v => w ⟨v.2.1, by unfold sK; omega⟩))) ?_⟩
      rw [xs]
      have al : ∀ b d, ¬ (b = 12 ∧ ((4 ≤ d ∧ d ≤ 11) ∨ d = 41 ∨ d = 44 ∨ d = 45 ∨ d = 46)) → ¬ (b = 72 ∧ d = (popC r ws).2.length) → I6 b 0 d = I1 b 0 d := fun b d u1 u2 => by
        rw [f6 _ _ _ (by omega), f5 _ _ _ (by omega), f4 _ _ _ (by omega), f3 _ _ _ (by omega), f2 _ _ _ (by omega)]
      refine ⟨rfl, t6, ?_, ?_, ?_, ?_, hs1, ⟨?_, ⟨?_, ?_⟩, ?_, ?_, ?_, ?_⟩, ?_, fun q => by cases q⟩
      · dsimp only
        rw [al _ _ (by decide) (by omega), f1.lo (fun v => by unfold bK at v; omega), x2, show opn (kd B n i :: (popC r ws).2) = opn ws by show opn _ + (if kd B n i = 22 then 1 else 0) = _; rw [if_neg k22, po]; rfl]
      · dsimp only; rw [f6 _ _ _ (by decide), f5 _ _ _ (by decide), f4 _ _ _ (by decide), f3 _ _ _ (by omega)]; exact s2
      · dsimp only; rw [f6 _ _ _ (by decide), f5 _ _ _ (by decide)]; exact y4
      · dsimp only; rw [f6 _ _ _ (by decide)]; exact y5
      · rw [f6 _ _ _ (by decide), f5 _ _ _ (by decide), f4 _ _ _ (by decide)]; exact w3
      · rw [f6 _ _ _ (by omega), f5 _ _ _ (by omega), f4 _ _ _ (by omega)]; exact s3
      · exact b2.q (fun c hc => al _ _ (by omega) (by omega))
      · rw [al _ _ (by decide) (by omega)]; exact b3
      · exact hR.q b4 (fun c hc => al _ _ (by omega) (by omega))
      · rw [al _ _ (by decide) (by omega)]; exact b5
      · exact RKp_frb (I := vk I1) (I' := vk I6) _ _ _ (fun b c u1 u2 => al b (64 + c) (by omega) (by omega)) b6
      · show hs1.length = nbW (popC r ws).2 + (if kd B n i = 22 ∨ kd B n i = 11 then 0 else 1) + 0
        rw [if_neg (by unfold isB at ib; omega)]; exact hl1
    dsimp only [x_int, x_lng, x_ild, x_lld, x_ald, x_ist, x_ast, x_lst, x_inc, x_ii, x_id, x_i, x_ll, x_ld, x_l, x_cmp, x_i2l, x_l2i, x_if, x_ic, x_dup, x_pop, x_dup2, x_gI, x_gL, x_gR, x_g1, x_g0, x_gP, x_pI, x_pZ, x_pL, x_pP, x_al, x_as, x_all, x_asl, x_alr, x_len, x_cpy, x_m2, x_m1, x_m2l, x_m1l, x_call, x_cv, x_ri, x_rz, x_rl, x_rv, zg, zset, zbef, zlong, zcat, cond_true, cond_false, List.take, List.drop, rv1, rv2, rv3, rv4, rv5, rv6, rv7, sm0, sm1, bl0, bl1, bl2, bl3, bl4, bl5, bl6, bl7, bl8, List.nil_append, List.cons_append, List.length_cons, List.length_nil, Nat.reduceBEq, Nat.reduceAdd, Nat.reduceSub, ta, tb, tn0, tn1, tn2, tn3, tn4, tn5, tn6, tn7, tn8, tn9, tn10, tn11, tn12]
    refine ⟨fun y => tl false ?_, fun y => tl true ?_⟩
    · have y : nI 3 ≤ nI (rkC (kd B n i)) := y
      rw [n_le (by omega) (by omega)] at y
      exact decide_eq_false (fun u => by have := kno.mpr u; omega)
    · have y : ¬ nI 3 ≤ nI (rkC (kd B n i)) := y
      rw [n_le (by omega) (by omega)] at y
      exact decide_eq_true (kno.mp (by omega))
  -- a sign binds
  have s175 : isB (kd B n i) → ∀ r, (rkC (kd B n i) = 4 → r = 5) → (¬ rkC (kd B n i) = 4 → r = rkC (kd B n i)) → bX12_signs_175 K [some refR, some (.inl (nI (kc (kd B n i))))] [.inl (nI r), refR] (I, L, P) := fun ib r r4 rn => by
    have sk : sgK (kd B n i) := Or.inl ib
    obtain ⟨k1, k6, k3, k22, kno⟩ := rkC_b ib
    have n23 : ¬ (kd B n i = 23 ∧ 0 < opn ws) := fun u => by unfold isB at ib; omega
    have r16 : 1 ≤ r ∧ r ≤ 6 := by
      by_cases c : rkC (kd B n i) = 4
      · rw [r4 c]; decide
      · rw [rn c]; omega
    unfold bX12_signs_175
    dsimp only [x_int, x_lng, x_ild, x_lld, x_ald, x_ist, x_ast, x_lst, x_inc, x_ii, x_id, x_i, x_ll, x_ld, x_l, x_cmp, x_i2l, x_l2i, x_if, x_ic, x_dup, x_pop, x_dup2, x_gI, x_gL, x_gR, x_g1, x_g0, x_gP, x_pI, x_pZ, x_pL, x_pP, x_al, x_as, x_all, x_asl, x_alr, x_len, x_cpy, x_m2, x_m1, x_m2l, x_m1l, x_call, x_cv, x_ri, x_rz, x_rl, x_rv, zg, zset, zbef, zlong, zcat, cond_true, cond_false, List.take, List.drop, rv1, rv2, rv3, rv4, rv5, rv6, rv7, sm0, sm1, bl0, bl1, bl2, bl3, bl4, bl5, bl6, bl7, bl8, List.nil_append, List.cons_append, List.length_cons, List.length_nil, Nat.reduceBEq, Nat.reduceAdd, Nat.reduceSub, ta, tb, tn0, tn1, tn2, tn3, tn4, tn5, tn6, tn7, tn8, tn9, tn10, tn11, tn12]
    refine p_bind r16 hB hd hl i6 sum64 l72 (fun I1 hs1 f1 hB1 hd1 hl1 => ?_)
    dsimp only [x_int, x_lng, x_ild, x_lld, x_ald, x_ist, x_ast, x_lst, x_inc, x_ii, x_id, x_i, x_ll, x_ld, x_l, x_cmp, x_i2l, x_l2i, x_if, x_ic, x_dup, x_pop, x_dup2, x_gI, x_gL, x_gR, x_g1, x_g0, x_gP, x_pI, x_pZ, x_pL, x_pP, x_al, x_as, x_all, x_asl, x_alr, x_len, x_cpy, x_m2, x_m1, x_m2l, x_m1l, x_call, x_cv, x_ri, x_rz, x_rl, x_rv, zg, zset, zbef, zlong, zcat, cond_true, cond_false, List.take, List.drop, rv1, rv2, rv3, rv4, rv5, rv6, rv7, sm0, sm1, bl0, bl1, bl2, bl3, bl4, bl5, bl6, bl7, bl8, List.nil_append, List.cons_append, List.length_cons, List.length_nil, Nat.reduceBEq, Nat.reduceAdd, Nat.reduceSub, ta, tb, tn0, tn1, tn2, tn3, tn4, tn5, tn6, tn7, tn8, tn9, tn10, tn11, tn12]
    refine p_rank sk ?_
    dsimp only [x_int, x_lng, x_ild, x_lld, x_ald, x_ist, x_ast, x_lst, x_inc, x_ii, x_id, x_i, x_ll, x_ld, x_l, x_cmp, x_i2l, x_l2i, x_if, x_ic, x_dup, x_pop, x_dup2, x_gI, x_gL, x_gR, x_g1, x_g0, x_gP, x_pI, x_pZ, x_pL, x_pP, x_al, x_as, x_all, x_asl, x_alr, x_len, x_cpy, x_m2, x_m1, x_m2l, x_m1l, x_call, x_cv, x_ri, x_rz, x_rl, x_rv, zg, zset, zbef, zlong, zcat, cond_true, cond_false, List.take, List.drop, rv1, rv2, rv3, rv4, rv5, rv6, rv7, sm0, sm1, bl0, bl1, bl2, bl3, bl4, bl5, bl6, bl7, bl8, List.nil_append, List.cons_append, List.length_cons, List.length_nil, Nat.reduceBEq, Nat.reduceAdd, Nat.reduceSub, ta, tb, tn0, tn1, tn2, tn3, tn4, tn5, tn6, tn7, tn8, tn9, tn10, tn11, tn12, zk_72, zl_72, cond_true]
    refine ⟨fun y => ?_, fun y => ?_⟩
    · have y : nI (rkC (kd B n i)) = nI 4 := y
      rw [n_eq (by omega) (by omega)] at y
      have r5 := r4 y
      subst r5
      have p5 := popC_5 i1
      have pl := popC_len (r := 5) (ws := ws)
      rw [hB1.1]
      cases e : (popC 5 ws).2 with
      | nil =>
        refine ⟨fun _ => ?_, fun z => absurd (Int32.le_refl _) z⟩
        have nc : cmT ws = false := by
          cases c : cmT ws with
          | false => rfl
          | true => obtain ⟨k, l, e2, -⟩ := p5.mp c; rw [e] at e2; cases e2
        exact s217 ib (fun u => by rw [nc] at u; exact absurd u.2 (by decide)) I1 hs1 5 (by decide) f1 (by rw [y]; exact (popC_45 nc).symm) hB1 hl1
      | cons k l =>
        rw [e, List.length_cons] at pl
        have hw := hB1.2.1
        rw [e] at hw
        have skk := popC_all i6 k (by rw [e]; exact List.mem_cons_self ..)
        have rkk := (kc_rk skk).2.2.2.2.2.2.2.1
        rw [List.length_cons, n_pred, n_cl (n := l.length) (by omega), hw.1]
        refine ⟨fun z => ?_, fun _ => ⟨n_zin (by show l.length < 96; omega) (by decide), p_rank skk ?_⟩⟩
        · have z : nI (l.length + 1) ≤ nI 0 := z
          rw [n_le (by omega) (by omega)] at z
          omega
        dsimp only [x_int, x_lng, x_ild, x_lld, x_ald, x_ist, x_ast, x_lst, x_inc, x_ii, x_id, x_i, x_ll, x_ld, x_l, x_cmp, x_i2l, x_l2i, x_if, x_ic, x_dup, x_pop, x_dup2, x_gI, x_gL, x_gR, x_g1, x_g0, x_gP, x_pI, x_pZ, x_pL, x_pP, x_al, x_as, x_all, x_asl, x_alr, x_len, x_cpy, x_m2, x_m1, x_m2l, x_m1l, x_call, x_cv, x_ri, x_rz, x_rl, x_rv, zg, zset, zbef, zlong, zcat, cond_true, cond_false, List.take, List.drop, rv1, rv2, rv3, rv4, rv5, rv6, rv7, sm0, sm1, bl0, bl1, bl2, bl3, bl4, bl5, bl6, bl7, bl8, List.nil_append, List.cons_append, List.length_cons, List.length_nil, Nat.reduceBEq, Nat.reduceAdd, Nat.reduceSub, ta, tb, tn0, tn1, tn2, tn3, tn4, tn5, tn6, tn7, tn8, tn9, tn10, tn11, tn12]
        refine ⟨fun z => ?_, fun z => ?_⟩
        · have z : nI (rkC k) = nI 4 := z
          rw [n_eq (by omega) (by omega)] at z
          have c := p5.mpr ⟨k, l, e, z⟩
          refine p_wrong (e := 1) (x1.q (fun q u1 u2 => f1.lo (fun v => by unfold bK at v; omega))) (fun I2 f2 s2 => ⟨Or.inl rfl, bad I1 I2 1 (bK_S f1) f2 s2 ?_⟩)
          rw [xs, if_neg n23, if_pos ib, if_pos ⟨y, c⟩]
        · have z : ¬ nI (rkC k) = nI 4 := z
          rw [n_eq (by omega) (by omega)] at z
          have nc : cmT ws = false := by
            cases c : cmT ws with
            | false => rfl
            | true => obtain ⟨k', l', e2, q2⟩ := p5.mp c; rw [e] at e2; cases e2; exact absurd q2 z
          exact s217 ib (fun u => by rw [nc] at u; exact absurd u.2 (by decide)) I1 hs1 5 (by decide) f1 (by rw [y]; exact (popC_45 nc).symm) hB1 hl1
    · have y : ¬ nI (rkC (kd B n i)) = nI 4 := y
      rw [n_eq (by omega) (by omega)] at y
      have re := rn y
      exact s217 ib (fun u => y u.1) I1 hs1 r r16.1 f1 (by rw [re]) hB1 hl1
  have s147 : ¬ (kd B n i = 23 ∧ 0 < opn ws) → ∀ (v : Int32) (z1 : Option zV), (isB (kd B n i) → v = nI (kc (kd B n i))) → (¬ isB (kd B n i) → v = 0) → bX12_signs_147 K [some refR, z1] [.inl v] (I, L, P) := fun n23 v z1 v1 v0 => by
    unfold bX12_signs_147
    dsimp only [x_int, x_lng, x_ild, x_lld, x_ald, x_ist, x_ast, x_lst, x_inc, x_ii, x_id, x_i, x_ll, x_ld, x_l, x_cmp, x_i2l, x_l2i, x_if, x_ic, x_dup, x_pop, x_dup2, x_gI, x_gL, x_gR, x_g1, x_g0, x_gP, x_pI, x_pZ, x_pL, x_pP, x_al, x_as, x_all, x_asl, x_alr, x_len, x_cpy, x_m2, x_m1, x_m2l, x_m1l, x_call, x_cv, x_ri, x_rz, x_rl, x_rv, zg, zset, zbef, zlong, zcat, cond_true, cond_false, List.take, List.drop, rv1, rv2, rv3, rv4, rv5, rv6, rv7, sm0, sm1, bl0, bl1, bl2, bl3, bl4, bl5, bl6, bl7, bl8, List.nil_append, List.cons_append, List.length_cons, List.length_nil, Nat.reduceBEq, Nat.reduceAdd, Nat.reduceSub, ta, tb, tn0, tn1, tn2, tn3, tn4, tn5, tn6, tn7, tn8, tn9, tn10, tn11, tn12]
    by_cases ib : isB (kd B n i)
    · rw [v1 ib]
      have sk : sgK (kd B n i) := Or.inl ib
      obtain ⟨k1, k6, k3, k22, kno⟩ := rkC_b ib
      obtain ⟨c14, -, -, c5, c2, c3, c4, -, -⟩ := kc_rk sk
      refine ⟨fun z => ?_, fun _ => p_rank sk ?_⟩
      · have z : nI (kc (kd B n i)) = nI 0 := z
        rw [n_eq (by omega) (by omega)] at z
        omega
      dsimp only [x_int, x_lng, x_ild, x_lld, x_ald, x_ist, x_ast, x_lst, x_inc, x_ii, x_id, x_i, x_ll, x_ld, x_l, x_cmp, x_i2l, x_l2i, x_if, x_ic, x_dup, x_pop, x_dup2, x_gI, x_gL, x_gR, x_g1, x_g0, x_gP, x_pI, x_pZ, x_pL, x_pP, x_al, x_as, x_all, x_asl, x_alr, x_len, x_cpy, x_m2, x_m1, x_m2l, x_m1l, x_call, x_cv, x_ri, x_rz, x_rl, x_rv, zg, zset, zbef, zlong, zcat, cond_true, cond_false, List.take, List.drop, rv1, rv2, rv3, rv4, rv5, rv6, rv7, sm0, sm1, bl0, bl1, bl2, bl3, bl4, bl5, bl6, bl7, bl8, List.nil_append, List.cons_append, List.length_cons, List.length_nil, Nat.reduceBEq, Nat.reduceAdd, Nat.reduceSub, ta, tb, tn0, tn1, tn2, tn3, tn4, tn5, tn6, tn7, tn8, tn9, tn10, tn11, tn12]
      refine ⟨fun y => ?_, fun y => p_rank sk ?_⟩
      · have y : nI (rkC (kd B n i)) = nI 4 := y
        rw [n_eq (by omega) (by omega)] at y
        exact s175 ib 5 (fun _ => rfl) (fun u => absurd y u)
      · have y : ¬ nI (rkC (kd B n i)) = nI 4 := y
        rw [n_eq (by omega) (by omega)] at y
        exact s175 ib (rkC (kd B n i)) (fun u => absurd u y) (fun _ => rfl)
    · rw [v0 ib]
      refine ⟨fun _ => p_wrong (e := 1) x1 (fun I2 f2 s2 => ⟨Or.inl rfl, hK I2 0 (f2.mono (fun b c u => by unfold sK; omega)) ?_⟩), fun z => absurd rfl z⟩
      rw [xs, if_neg n23, if_neg ib]
      by_cases o : 0 < opn ws
      · rw [if_pos o]; exact ⟨rfl, s2⟩
      · rw [if_neg o]; exact ⟨rfl, s2⟩
  have s47 : ¬ (kd B n i = 23 ∧ 0 < opn ws) → ∀ z1 : Option zV, bX12_signs_47 K [some refR, z1] [] (I, L, P) := fun n23 z1 => by
    have cm := RTk_cmp x1.k
    have cw := (RTk_which x1.k).2.2.2
    have fin := fun v => s147 n23 v z1
    unfold bX12_signs_47
    dsimp only [x_int, x_lng, x_ild, x_lld, x_ald, x_ist, x_ast, x_lst, x_inc, x_ii, x_id, x_i, x_ll, x_ld, x_l, x_cmp, x_i2l, x_l2i, x_if, x_ic, x_dup, x_pop, x_dup2, x_gI, x_gL, x_gR, x_g1, x_g0, x_gP, x_pI, x_pZ, x_pL, x_pP, x_al, x_as, x_all, x_asl, x_alr, x_len, x_cpy, x_m2, x_m1, x_m2l, x_m1l, x_call, x_cv, x_ri, x_rz, x_rl, x_rv, zg, zset, zbef, zlong, zcat, cond_true, cond_false, List.take, List.drop, rv1, rv2, rv3, rv4, rv5, rv6, rv7, sm0, sm1, bl0, bl1, bl2, bl3, bl4, bl5, bl6, bl7, bl8, List.nil_append, List.cons_append, List.length_cons, List.length_nil, Nat.reduceBEq, Nat.reduceAdd, Nat.reduceSub, ta, tb, tn0, tn1, tn2, tn3, tn4, tn5, tn6, tn7, tn8, tn9, tn10, tn11, tn12]
    refine p_isKey (q := 10) (by decide) x1 (fun k10 => ?_) (fun n10 => ?_)
    · dsimp only [x_int, x_lng, x_ild, x_lld, x_ald, x_ist, x_ast, x_lst, x_inc, x_ii, x_id, x_i, x_ll, x_ld, x_l, x_cmp, x_i2l, x_l2i, x_if, x_ic, x_dup, x_pop, x_dup2, x_gI, x_gL, x_gR, x_g1, x_g0, x_gP, x_pI, x_pZ, x_pL, x_pP, x_al, x_as, x_all, x_asl, x_alr, x_len, x_cpy, x_m2, x_m1, x_m2l, x_m1l, x_call, x_cv, x_ri, x_rz, x_rl, x_rv, zg, zset, zbef, zlong, zcat, cond_true, cond_false, List.take, List.drop, rv1, rv2, rv3, rv4, rv5, rv6, rv7, sm0, sm1, bl0, bl1, bl2, bl3, bl4, bl5, bl6, bl7, bl8, List.nil_append, List.cons_append, List.length_cons, List.length_nil, Nat.reduceBEq, Nat.reduceAdd, Nat.reduceSub, ta, tb, tn0, tn1, tn2, tn3, tn4, tn5, tn6, tn7, tn8, tn9, tn10, tn11, tn12]
      exact ⟨fun y => absurd y (show ¬ (1 : Int32) = 0 by decide), fun _ => fin 3 (fun _ => by rw [k10]; rfl) (fun u => absurd (by unfold isB; omega) u)⟩
    dsimp only [x_int, x_lng, x_ild, x_lld, x_ald, x_ist, x_ast, x_lst, x_inc, x_ii, x_id, x_i, x_ll, x_ld, x_l, x_cmp, x_i2l, x_l2i, x_if, x_ic, x_dup, x_pop, x_dup2, x_gI, x_gL, x_gR, x_g1, x_g0, x_gP, x_pI, x_pZ, x_pL, x_pP, x_al, x_as, x_all, x_asl, x_alr, x_len, x_cpy, x_m2, x_m1, x_m2l, x_m1l, x_call, x_cv, x_ri, x_rz, x_rl, x_rv, zg, zset, zbef, zlong, zcat, cond_true, cond_false, List.take, List.drop, rv1, rv2, rv3, rv4, rv5, rv6, rv7, sm0, sm1, bl0, bl1, bl2, bl3, bl4, bl5, bl6, bl7, bl8, List.nil_append, List.cons_append, List.length_cons, List.length_nil, Nat.reduceBEq, Nat.reduceAdd, Nat.reduceSub, ta, tb, tn0, tn1, tn2, tn3, tn4, tn5, tn6, tn7, tn8, tn9, tn10, tn11, tn12]
    refine ⟨fun _ => ?_, fun y => absurd rfl y⟩
    refine p_isKey (q := 9) (by decide) x1 (fun k9 => ?_) (fun n9 => ?_)
    · dsimp only [x_int, x_lng, x_ild, x_lld, x_ald, x_ist, x_ast, x_lst, x_inc, x_ii, x_id, x_i, x_ll, x_ld, x_l, x_cmp, x_i2l, x_l2i, x_if, x_ic, x_dup, x_pop, x_dup2, x_gI, x_gL, x_gR, x_g1, x_g0, x_gP, x_pI, x_pZ, x_pL, x_pP, x_al, x_as, x_all, x_asl, x_alr, x_len, x_cpy, x_m2, x_m1, x_m2l, x_m1l, x_call, x_cv, x_ri, x_rz, x_rl, x_rv, zg, zset, zbef, zlong, zcat, cond_true, cond_false, List.take, List.drop, rv1, rv2, rv3, rv4, rv5, rv6, rv7, sm0, sm1, bl0, bl1, bl2, bl3, bl4, bl5, bl6, bl7, bl8, List.nil_append, List.cons_append, List.length_cons, List.length_nil, Nat.reduceBEq, Nat.reduceAdd, Nat.reduceSub, ta, tb, tn0, tn1, tn2, tn3, tn4, tn5, tn6, tn7, tn8, tn9, tn10, tn11, tn12]
      exact ⟨fun y => absurd y (show ¬ (1 : Int32) = 0 by decide), fun _ => fin 4 (fun _ => by rw [k9]; rfl) (fun u => absurd (by unfold isB; omega) u)⟩
    dsimp only [x_int, x_lng, x_ild, x_lld, x_ald, x_ist, x_ast, x_lst, x_inc, x_ii, x_id, x_i, x_ll, x_ld, x_l, x_cmp, x_i2l, x_l2i, x_if, x_ic, x_dup, x_pop, x_dup2, x_gI, x_gL, x_gR, x_g1, x_g0, x_gP, x_pI, x_pZ, x_pL, x_pP, x_al, x_as, x_all, x_asl, x_alr, x_len, x_cpy, x_m2, x_m1, x_m2l, x_m1l, x_call, x_cv, x_ri, x_rz, x_rl, x_rv, zg, zset, zbef, zlong, zcat, cond_true, cond_false, List.take, List.drop, rv1, rv2, rv3, rv4, rv5, rv6, rv7, sm0, sm1, bl0, bl1, bl2, bl3, bl4, bl5, bl6, bl7, bl8, List.nil_append, List.cons_append, List.length_cons, List.length_nil, Nat.reduceBEq, Nat.reduceAdd, Nat.reduceSub, ta, tb, tn0, tn1, tn2, tn3, tn4, tn5, tn6, tn7, tn8, tn9, tn10, tn11, tn12]
    refine ⟨fun _ => ⟨fun y => ?_, fun y => ?_⟩, fun y => absurd rfl y⟩
    · have k28 := cm.mp y
      rw [cw k28]
      refine fin _ (fun _ => ?_) (fun u => absurd (by unfold isB; omega) u)
      have : ∀ k, k < 34 → 28 ≤ k → (5 : Int32) + nI (k - 28) = nI (kc k) := by decide
      exact this _ (by omega) k28.1
    have n28 : ¬ (28 ≤ kd B n i ∧ kd B n i ≤ 33) := fun u => y (cm.mpr u)
    refine p_isSign (q := 24) (by decide) x1 (fun k24 => ?_) (fun n24 => ?_)
    · dsimp only [x_int, x_lng, x_ild, x_lld, x_ald, x_ist, x_ast, x_lst, x_inc, x_ii, x_id, x_i, x_ll, x_ld, x_l, x_cmp, x_i2l, x_l2i, x_if, x_ic, x_dup, x_pop, x_dup2, x_gI, x_gL, x_gR, x_g1, x_g0, x_gP, x_pI, x_pZ, x_pL, x_pP, x_al, x_as, x_all, x_asl, x_alr, x_len, x_cpy, x_m2, x_m1, x_m2l, x_m1l, x_call, x_cv, x_ri, x_rz, x_rl, x_rv, zg, zset, zbef, zlong, zcat, cond_true, cond_false, List.take, List.drop, rv1, rv2, rv3, rv4, rv5, rv6, rv7, sm0, sm1, bl0, bl1, bl2, bl3, bl4, bl5, bl6, bl7, bl8, List.nil_append, List.cons_append, List.length_cons, List.length_nil, Nat.reduceBEq, Nat.reduceAdd, Nat.reduceSub, ta, tb, tn0, tn1, tn2, tn3, tn4, tn5, tn6, tn7, tn8, tn9, tn10, tn11, tn12]
      exact ⟨fun y => absurd y (show ¬ (1 : Int32) = 0 by decide), fun _ => fin 11 (fun _ => by rw [k24]; rfl) (fun u => absurd (by unfold isB; omega) u)⟩
    dsimp only [x_int, x_lng, x_ild, x_lld, x_ald, x_ist, x_ast, x_lst, x_inc, x_ii, x_id, x_i, x_ll, x_ld, x_l, x_cmp, x_i2l, x_l2i, x_if, x_ic, x_dup, x_pop, x_dup2, x_gI, x_gL, x_gR, x_g1, x_g0, x_gP, x_pI, x_pZ, x_pL, x_pP, x_al, x_as, x_all, x_asl, x_alr, x_len, x_cpy, x_m2, x_m1, x_m2l, x_m1l, x_call, x_cv, x_ri, x_rz, x_rl, x_rv, zg, zset, zbef, zlong, zcat, cond_true, cond_false, List.take, List.drop, rv1, rv2, rv3, rv4, rv5, rv6, rv7, sm0, sm1, bl0, bl1, bl2, bl3, bl4, bl5, bl6, bl7, bl8, List.nil_append, List.cons_append, List.length_cons, List.length_nil, Nat.reduceBEq, Nat.reduceAdd, Nat.reduceSub, ta, tb, tn0, tn1, tn2, tn3, tn4, tn5, tn6, tn7, tn8, tn9, tn10, tn11, tn12]
    refine ⟨fun _ => ?_, fun y => absurd rfl y⟩
    refine p_isSign (q := 25) (by decide) x1 (fun k25 => ?_) (fun n25 => ?_)
    · dsimp only [x_int, x_lng, x_ild, x_lld, x_ald, x_ist, x_ast, x_lst, x_inc, x_ii, x_id, x_i, x_ll, x_ld, x_l, x_cmp, x_i2l, x_l2i, x_if, x_ic, x_dup, x_pop, x_dup2, x_gI, x_gL, x_gR, x_g1, x_g0, x_gP, x_pI, x_pZ, x_pL, x_pP, x_al, x_as, x_all, x_asl, x_alr, x_len, x_cpy, x_m2, x_m1, x_m2l, x_m1l, x_call, x_cv, x_ri, x_rz, x_rl, x_rv, zg, zset, zbef, zlong, zcat, cond_true, cond_false, List.take, List.drop, rv1, rv2, rv3, rv4, rv5, rv6, rv7, sm0, sm1, bl0, bl1, bl2, bl3, bl4, bl5, bl6, bl7, bl8, List.nil_append, List.cons_append, List.length_cons, List.length_nil, Nat.reduceBEq, Nat.reduceAdd, Nat.reduceSub, ta, tb, tn0, tn1, tn2, tn3, tn4, tn5, tn6, tn7, tn8, tn9, tn10, tn11, tn12]
      exact ⟨fun y => absurd y (show ¬ (1 : Int32) = 0 by decide), fun _ => fin 12 (fun _ => by rw [k25]; rfl) (fun u => absurd (by unfold isB; omega) u)⟩
    dsimp only [x_int, x_lng, x_ild, x_lld, x_ald, x_ist, x_ast, x_lst, x_inc, x_ii, x_id, x_i, x_ll, x_ld, x_l, x_cmp, x_i2l, x_l2i, x_if, x_ic, x_dup, x_pop, x_dup2, x_gI, x_gL, x_gR, x_g1, x_g0, x_gP, x_pI, x_pZ, x_pL, x_pP, x_al, x_as, x_all, x_asl, x_alr, x_len, x_cpy, x_m2, x_m1, x_m2l, x_m1l, x_call, x_cv, x_ri, x_rz, x_rl, x_rv, zg, zset, zbef, zlong, zcat, cond_true, cond_false, List.take, List.drop, rv1, rv2, rv3, rv4, rv5, rv6, rv7, sm0, sm1, bl0, bl1, bl2, bl3, bl4, bl5, bl6, bl7, bl8, List.nil_append, List.cons_append, List.length_cons, List.length_nil, Nat.reduceBEq, Nat.reduceAdd, Nat.reduceSub, ta, tb, tn0, tn1, tn2, tn3, tn4, tn5, tn6, tn7, tn8, tn9, tn10, tn11, tn12]
    refine ⟨fun _ => ?_, fun y => absurd rfl y⟩
    refine p_isSign (q := 26) (by decide) x1 (fun k26 => ?_) (fun n26 => ?_)
    · dsimp only [x_int, x_lng, x_ild, x_lld, x_ald, x_ist, x_ast, x_lst, x_inc, x_ii, x_id, x_i, x_ll, x_ld, x_l, x_cmp, x_i2l, x_l2i, x_if, x_ic, x_dup, x_pop, x_dup2, x_gI, x_gL, x_gR, x_g1, x_g0, x_gP, x_pI, x_pZ, x_pL, x_pP, x_al, x_as, x_all, x_asl, x_alr, x_len, x_cpy, x_m2, x_m1, x_m2l, x_m1l, x_call, x_cv, x_ri, x_rz, x_rl, x_rv, zg, zset, zbef, zlong, zcat, cond_true, cond_false, List.take, List.drop, rv1, rv2, rv3, rv4, rv5, rv6, rv7, sm0, sm1, bl0, bl1, bl2, bl3, bl4, bl5, bl6, bl7, bl8, List.nil_append, List.cons_append, List.length_cons, List.length_nil, Nat.reduceBEq, Nat.reduceAdd, Nat.reduceSub, ta, tb, tn0, tn1, tn2, tn3, tn4, tn5, tn6, tn7, tn8, tn9, tn10, tn11, tn12]
      exact ⟨fun y => absurd y (show ¬ (1 : Int32) = 0 by decide), fun _ => fin 13 (fun _ => by rw [k26]; rfl) (fun u => absurd (by unfold isB; omega) u)⟩
    dsimp only [x_int, x_lng, x_ild, x_lld, x_ald, x_ist, x_ast, x_lst, x_inc, x_ii, x_id, x_i, x_ll, x_ld, x_l, x_cmp, x_i2l, x_l2i, x_if, x_ic, x_dup, x_pop, x_dup2, x_gI, x_gL, x_gR, x_g1, x_g0, x_gP, x_pI, x_pZ, x_pL, x_pP, x_al, x_as, x_all, x_asl, x_alr, x_len, x_cpy, x_m2, x_m1, x_m2l, x_m1l, x_call, x_cv, x_ri, x_rz, x_rl, x_rv, zg, zset, zbef, zlong, zcat, cond_true, cond_false, List.take, List.drop, rv1, rv2, rv3, rv4, rv5, rv6, rv7, sm0, sm1, bl0, bl1, bl2, bl3, bl4, bl5, bl6, bl7, bl8, List.nil_append, List.cons_append, List.length_cons, List.length_nil, Nat.reduceBEq, Nat.reduceAdd, Nat.reduceSub, ta, tb, tn0, tn1, tn2, tn3, tn4, tn5, tn6, tn7, tn8, tn9, tn10, tn11, tn12]
    refine ⟨fun _ => ?_, fun y => absurd rfl y⟩
    refine p_isSign (q := 27) (by decide) x1 (fun k27 => ?_) (fun n27 => ?_)
    · dsimp only [x_int, x_lng, x_ild, x_lld, x_ald, x_ist, x_ast, x_lst, x_inc, x_ii, x_id, x_i, x_ll, x_ld, x_l, x_cmp, x_i2l, x_l2i, x_if, x_ic, x_dup, x_pop, x_dup2, x_gI, x_gL, x_gR, x_g1, x_g0, x_gP, x_pI, x_pZ, x_pL, x_pP, x_al, x_as, x_all, x_asl, x_alr, x_len, x_cpy, x_m2, x_m1, x_m2l, x_m1l, x_call, x_cv, x_ri, x_rz, x_rl, x_rv, zg, zset, zbef, zlong, zcat, cond_true, cond_false, List.take, List.drop, rv1, rv2, rv3, rv4, rv5, rv6, rv7, sm0, sm1, bl0, bl1, bl2, bl3, bl4, bl5, bl6, bl7, bl8, List.nil_append, List.cons_append, List.length_cons, List.length_nil, Nat.reduceBEq, Nat.reduceAdd, Nat.reduceSub, ta, tb, tn0, tn1, tn2, tn3, tn4, tn5, tn6, tn7, tn8, tn9, tn10, tn11, tn12]
      exact ⟨fun y => absurd y (show ¬ (1 : Int32) = 0 by decide), fun _ => fin 14 (fun _ => by rw [k27]; rfl) (fun u => absurd (by unfold isB; omega) u)⟩
    dsimp only [x_int, x_lng, x_ild, x_lld, x_ald, x_ist, x_ast, x_lst, x_inc, x_ii, x_id, x_i, x_ll, x_ld, x_l, x_cmp, x_i2l, x_l2i, x_if, x_ic, x_dup, x_pop, x_dup2, x_gI, x_gL, x_gR, x_g1, x_g0, x_gP, x_pI, x_pZ, x_pL, x_pP, x_al, x_as, x_all, x_asl, x_alr, x_len, x_cpy, x_m2, x_m1, x_m2l, x_m1l, x_call, x_cv, x_ri, x_rz, x_rl, x_rv, zg, zset, zbef, zlong, zcat, cond_true, cond_false, List.take, List.drop, rv1, rv2, rv3, rv4, rv5, rv6, rv7, sm0, sm1, bl0, bl1, bl2, bl3, bl4, bl5, bl6, bl7, bl8, List.nil_append, List.cons_append, List.length_cons, List.length_nil, Nat.reduceBEq, Nat.reduceAdd, Nat.reduceSub, ta, tb, tn0, tn1, tn2, tn3, tn4, tn5, tn6, tn7, tn8, tn9, tn10, tn11, tn12]
    exact ⟨fun _ => fin 0 (fun u => absurd u (by unfold isB; omega)) (fun _ => rfl), fun y => absurd rfl y⟩
  show bX12_signs_0 K [some (.inr (.inr (12,0))), none] [] (I, L, P)
  unfold bX12_signs_0
  dsimp only [x_int, x_lng, x_ild, x_lld, x_ald, x_ist, x_ast, x_lst, x_inc, x_ii, x_id, x_i, x_ll, x_ld, x_l, x_cmp, x_i2l, x_l2i, x_if, x_ic, x_dup, x_pop, x_dup2, x_gI, x_gL, x_gR, x_g1, x_g0, x_gP, x_pI, x_pZ, x_pL, x_pP, x_al, x_as, x_all, x_asl, x_alr, x_len, x_cpy, x_m2, x_m1, x_m2l, x_m1l, x_call, x_cv, x_ri, x_rz, x_rl, x_rv, zg, zset, zbef, zlong, zcat, cond_true, cond_false, List.take, List.drop, rv1, rv2, rv3, rv4, rv5, rv6, rv7, sm0, sm1, bl0, bl1, bl2, bl3, bl4, bl5, bl6, bl7, bl8, List.nil_append, List.cons_append, List.length_cons, List.length_nil, Nat.reduceBEq, Nat.reduceAdd, Nat.reduceSub, ta, tb, tn0, tn1, tn2, tn3, tn4, tn5, tn6, tn7, tn8, tn9, tn10, tn11, tn12]
  refine p_isSign (q := 23) (by decide) x1 (fun k23 => ?_) (fun n23 => ?_)
  rotate_left
  · dsimp only [x_int, x_lng, x_ild, x_lld, x_ald, x_ist, x_ast, x_lst, x_inc, x_ii, x_id, x_i, x_ll, x_ld, x_l, x_cmp, x_i2l, x_l2i, x_if, x_ic, x_dup, x_pop, x_dup2, x_gI, x_gL, x_gR, x_g1, x_g0, x_gP, x_pI, x_pZ, x_pL, x_pP, x_al, x_as, x_all, x_asl, x_alr, x_len, x_cpy, x_m2, x_m1, x_m2l, x_m1l, x_call, x_cv, x_ri, x_rz, x_rl, x_rv, zg, zset, zbef, zlong, zcat, cond_true, cond_false, List.take, List.drop, rv1, rv2, rv3, rv4, rv5, rv6, rv7, sm0, sm1, bl0, bl1, bl2, bl3, bl4, bl5, bl6, bl7, bl8, List.nil_append, List.cons_append, List.length_cons, List.length_nil, Nat.reduceBEq, Nat.reduceAdd, Nat.reduceSub, ta, tb, tn0, tn1, tn2, tn3, tn4, tn5, tn6, tn7, tn8, tn9, tn10, tn11, tn12]
    exact ⟨fun _ => s47 (fun u => n23 u.1) _, fun y => absurd rfl y⟩
  dsimp only [x_int, x_lng, x_ild, x_lld, x_ald, x_ist, x_ast, x_lst, x_inc, x_ii, x_id, x_i, x_ll, x_ld, x_l, x_cmp, x_i2l, x_l2i, x_if, x_ic, x_dup, x_pop, x_dup2, x_gI, x_gL, x_gR, x_g1, x_g0, x_gP, x_pI, x_pZ, x_pL, x_pP, x_al, x_as, x_all, x_asl, x_alr, x_len, x_cpy, x_m2, x_m1, x_m2l, x_m1l, x_call, x_cv, x_ri, x_rz, x_rl, x_rv, zg, zset, zbef, zlong, zcat, cond_true, cond_false, List.take, List.drop, rv1, rv2, rv3, rv4, rv5, rv6, rv7, sm0, sm1, bl0, bl1, bl2, bl3, bl4, bl5, bl6, bl7, bl8, List.nil_append, List.cons_append, List.length_cons, List.length_nil, Nat.reduceBEq, Nat.reduceAdd, Nat.reduceSub, ta, tb, tn0, tn1, tn2, tn3, tn4, tn5, tn6, tn7, tn8, tn9, tn10, tn11, tn12]
  rw [x2]
  refine ⟨fun y => absurd y (show ¬ (1 : Int32) = 0 by decide), fun _ => ⟨fun y => s47 (fun u => ?_) _, fun y => ?_⟩⟩
  · have y : nI (opn ws) ≤ nI 0 := y
    rw [n_le (by omega) (by omega)] at y
    omega
  have y : ¬ nI (opn ws) ≤ nI 0 := y
  rw [n_le (by omega) (by omega)] at y
  rw [if_pos ⟨k23, by omega⟩] at xs
  obtain ⟨l, e, eo⟩ := pop1_open (show 0 < opn ws by omega) i6
  have pl := popC_len (r := 1) (ws := ws)
  rw [e, List.length_cons] at pl
  refine p_bind (r := 1) (by decide) hB hd hl i6 sum64 l72 (fun I1 hs1 f1 hB1 hd1 hl1 => ?_)
  rw [e] at hB1 hl1
  obtain ⟨b1, b2, b3, b4, b5, b6⟩ := hB1
  dsimp only [x_int, x_lng, x_ild, x_lld, x_ald, x_ist, x_ast, x_lst, x_inc, x_ii, x_id, x_i, x_ll, x_ld, x_l, x_cmp, x_i2l, x_l2i, x_if, x_ic, x_dup, x_pop, x_dup2, x_gI, x_gL, x_gR, x_g1, x_g0, x_gP, x_pI, x_pZ, x_pL, x_pP, x_al, x_as, x_all, x_asl, x_alr, x_len, x_cpy, x_m2, x_m1, x_m2l, x_m1l, x_call, x_cv, x_ri, x_rz, x_rl, x_rv, zg, zset, zbef, zlong, zcat, cond_true, cond_false, List.take, List.drop, rv1, rv2, rv3, rv4, rv5, rv6, rv7, sm0, sm1, bl0, bl1, bl2, bl3, bl4, bl5, bl6, bl7, bl8, List.nil_append, List.cons_append, List.length_cons, List.length_nil, Nat.reduceBEq, Nat.reduceAdd, Nat.reduceSub, ta, tb, tn0, tn1, tn2, tn3, tn4, tn5, tn6, tn7, tn8, tn9, tn10, tn11, tn12]
  rw [b1, List.length_cons, n_pred]
  obtain ⟨J2, g2, y2, f2⟩ := zsI_ex I1 L P 12 0 41 (nI l.length)
  rw [g2]
  dsimp only
  rw [f2 12 0 43 (by decide), f1.lo (fun v => by unfold bK at v; omega), x2, show nI (opn ws) = nI (opn l + 1) by rw [eo], n_pred]
  obtain ⟨J3, g3, y3, f3⟩ := zsI_ex J2 L P 12 0 43 (nI (opn l))
  rw [g3]
  have fa : ony (sK a) I J3 := (bK_S f1).tr (fun b c d w => by rw [f3 b c d (fun v => w ⟨v.2.1, by unfold sK; omega⟩), f2 b c d (fun v => w ⟨v.2.1, by unfold sK; omega⟩)])
  refine p_next (hp.g (sK_G fa)) (x1.q (fun q u1 u2 => by rw [f3 _ _ _ (by omega), f2 _ _ _ (by omega)]; exact f1.lo (fun v => by unfold bK at v; omega))) (fun I5 f5 t5 => ?_)
  dsimp only [x_int, x_lng, x_ild, x_lld, x_ald, x_ist, x_ast, x_lst, x_inc, x_ii, x_id, x_i, x_ll, x_ld, x_l, x_cmp, x_i2l, x_l2i, x_if, x_ic, x_dup, x_pop, x_dup2, x_gI, x_gL, x_gR, x_g1, x_g0, x_gP, x_pI, x_pZ, x_pL, x_pP, x_al, x_as, x_all, x_asl, x_alr, x_len, x_cpy, x_m2, x_m1, x_m2l, x_m1l, x_call, x_cv, x_ri, x_rz, x_rl, x_rv, zg, zset, zbef, zlong, zcat, cond_true, cond_false, List.take, List.drop, rv1, rv2, rv3, rv4, rv5, rv6, rv7, sm0, sm1, bl0, bl1, bl2, bl3, bl4, bl5, bl6, bl7, bl8, List.nil_append, List.cons_append, List.length_cons, List.length_nil, Nat.reduceBEq, Nat.reduceAdd, Nat.reduceSub, ta, tb, tn0, tn1, tn2, tn3, tn4, tn5, tn6, tn7, tn8, tn9, tn10, tn11, tn12]
  refine ⟨Or.inr rfl, hK I5 1 (fa.tr (fun b c d w => f5 b c d (fun v => w ⟨v.2.1, by unfold sK; omega⟩))) ?_⟩
  rw [xs, e]
  have al : ∀ b d, ¬ (b = 12 ∧ ((4 ≤ d ∧ d ≤ 11) ∨ d = 41 ∨ d = 43)) → I5 b 0 d = I1 b 0 d := fun b d u1 => by
    rw [f5 _ _ _ (by omega), f3 _ _ _ (by omega), f2 _ _ _ (by omega)]
  refine ⟨rfl, t5, ?_, ?_, ?_, ?_, hs1, ⟨?_, ?_, ?_, ?_, ?_, ?_⟩, ?_, fun _ => hd1⟩
  · dsimp only [List.tail_cons]; rw [f5 _ _ _ (by decide)]; exact y3
  · dsimp only; rw [al _ _ (by decide), f1.lo (fun v => by unfold bK at v; omega)]; exact x3
  · dsimp only; rw [al _ _ (by decide), f1.lo (fun v => by unfold bK at v; omega)]; exact x4
  · dsimp only; rw [al _ _ (by decide), f1.lo (fun v => by unfold bK at v; omega)]; exact x5
  · rw [f5 _ _ _ (by decide), f3 _ _ _ (by decide)]; exact y2
  · exact wR.q b2.2 (fun c hc => al _ _ (by omega))
  · rw [al _ _ (by decide)]; exact b3
  · exact hR.q b4 (fun c hc => al _ _ (by omega))
  · rw [al _ _ (by decide)]; exact b5
  · exact RKp_frb (I := vk I1) (I' := vk I5) _ _ _ (fun b c u1 u2 => al b (64 + c) (by omega)) b6
  · show hs1.length = nbW l + 1
    rw [hl1]; rfl
