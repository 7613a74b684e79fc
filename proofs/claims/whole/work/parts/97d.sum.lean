theorem p_takF {K : zQ} {I : zI} {L : zJ} {P : zP} {B : Nat → Nat} {n m : Nat} {k : Int32} {x : Nat × Nat} (h : stC B n m (.inr x) I) (hK : ∀ I' : zI, frRd I I' → stC B n m (.inr x) I' → K [] (I', L, P)) : mX5_take K [rdR, .inl k] (I, L, P) := by
  show bX5_take_0 K [some (.inr (.inr (5,0))), some (.inl k)] [] (I, L, P)
  unfold bX5_take_0
  dsimp only [x_int, x_lng, x_ild, x_lld, x_ald, x_ist, x_ast, x_lst, x_inc, x_ii, x_id, x_i, x_ll, x_ld, x_l, x_cmp, x_i2l, x_l2i, x_if, x_ic, x_dup, x_pop, x_dup2, x_gI, x_gL, x_gR, x_g1, x_g0, x_gP, x_pI, x_pZ, x_pL, x_pP, x_al, x_as, x_all, x_asl, x_alr, x_len, x_cpy, x_m2, x_m1, x_m2l, x_m1l, x_call, x_cv, x_ri, x_rz, x_rl, x_rv, zg, zset, zbef, zlong, zcat, cond_true, cond_false, List.take, List.drop, rv1, rv2, rv3, rv4, rv5, rv6, rv7, sm0, sm1, bl0, bl1, bl2, bl3, bl4, bl5, bl6, bl7, bl8, List.nil_append, List.cons_append, List.length_cons, List.length_nil, Nat.reduceBEq, Nat.reduceAdd, Nat.reduceSub, ta, tb, tn0, tn1, tn2, tn3, tn4, tn5, tn6, tn7, tn8, tn9, tn10, tn11, tn12]
  have skip : ∀ (I2 : zI), frRd I I2 → stC B n m (.inr x) I2 → bX5_take_16 K [some rdR, some (.inl k)] [] (I2, L, P) := fun I2 f2 q1 => by
    unfold bX5_take_16
    dsimp only [x_int, x_lng, x_ild, x_lld, x_ald, x_ist, x_ast, x_lst, x_inc, x_ii, x_id, x_i, x_ll, x_ld, x_l, x_cmp, x_i2l, x_l2i, x_if, x_ic, x_dup, x_pop, x_dup2, x_gI, x_gL, x_gR, x_g1, x_g0, x_gP, x_pI, x_pZ, x_pL, x_pP, x_al, x_as, x_all, x_asl, x_alr, x_len, x_cpy, x_m2, x_m1, x_m2l, x_m1l, x_call, x_cv, x_ri, x_rz, x_rl, x_rv, zg, zset, zbef, zlong, zcat, cond_true, cond_false, List.take, List.drop, rv1, rv2, rv3, rv4, rv5, rv6, rv7, sm0, sm1, bl0, bl1, bl2, bl3, bl4, bl5, bl6, bl7, bl8, List.nil_append, List.cons_append, List.length_cons, List.length_nil, Nat.reduceBEq, Nat.reduceAdd, Nat.reduceSub, ta, tb, tn0, tn1, tn2, tn3, tn4, tn5, tn6, tn7, tn8, tn9, tn10, tn11, tn12, bX5_take_30]
    rcases q1.ft with ⟨-, j, ej⟩ | ⟨t0, -⟩
    · cases ej
    · exact ⟨fun z => absurd z t0, fun _ => hK I2 f2 q1⟩
  exact ⟨fun _ => skip I frRd.rf h, fun _ => p_fail (e := 1) (by omega) h (fun I2 f2 s2 => skip I2 f2 s2)⟩
theorem p_openBracket {K : zQ} {I : zI} {L : zJ} {P : zP} {B : Nat → Nat} {n m d w c0 i cnt : Nat} {Q : aQ} {cs : List Int32} {ws : List Nat} {mn : Bool} (hy : rdY B n m d w P) (hm : TKm B n m I) (hX : XC B n m d w Q (i, cs, ws, true, mn, cnt) I) (hI : XI c0 (i, cs, ws, true, mn, cnt)) (hk : kd B n i = 22) (hK : ∀ I' : zI, frD d I I' → I' 9 d 12 = I 9 d 12 → TKm B n m I' → xout B n m d w Q (xst B n (i, cs, ws, true, mn, cnt)) I' → K [] (I', L, P)) : mX5_openBracket K [rdR] (I, L, P) := by
  obtain ⟨⟨hE, n7, hP, d2⟩, hL, hw⟩ := hy
  have l72 := hI.l72
  obtain ⟨-, -, i3, i4, i5, i6⟩ := hI
  dsimp only at l72 i3 i4 i5 i6
  have xl := hX.law hw
  obtain ⟨x1, x2, x3, x4, x5, x6, x7⟩ := hX
  dsimp only at x1 x2 x3 x4 x5 x6 x7 xl
  have ol := opn_le ws
  have xe : xst B n (i, cs, ws, true, mn, cnt) = if opn ws = 8 then .inl (2, i) else .inr (.inr (i + 1, cs, 22 :: ws, true, true, cnt)) := by
    unfold xst
    dsimp only
    rw [if_pos rfl, if_neg (by omega), if_pos hk]
  rw [xe] at hK
  show bX5_openBracket_0 K [some (.inr (.inr (5,0)))] [] (I, L, P)
  unfold bX5_openBracket_0
  dsimp only [x_int, x_lng, x_ild, x_lld, x_ald, x_ist, x_ast, x_lst, x_inc, x_ii, x_id, x_i, x_ll, x_ld, x_l, x_cmp, x_i2l, x_l2i, x_if, x_ic, x_dup, x_pop, x_dup2, x_gI, x_gL, x_gR, x_g1, x_g0, x_gP, x_pI, x_pZ, x_pL, x_pP, x_al, x_as, x_all, x_asl, x_alr, x_len, x_cpy, x_m2, x_m1, x_m2l, x_m1l, x_call, x_cv, x_ri, x_rz, x_rl, x_rv, zg, zset, zbef, zlong, zcat, cond_true, cond_false, List.take, List.drop, rv1, rv2, rv3, rv4, rv5, rv6, rv7, sm0, sm1, bl0, bl1, bl2, bl3, bl4, bl5, bl6, bl7, bl8, List.nil_append, List.cons_append, List.length_cons, List.length_nil, Nat.reduceBEq, Nat.reduceAdd, Nat.reduceSub, ta, tb, tn0, tn1, tn2, tn3, tn4, tn5, tn6, tn7, tn8, tn9, tn10, tn11, tn12]
  rw [x4]
  refine ⟨fun z => ?_, fun z => p_fail (st := .inl i) (e := 2) (by omega) x1 (fun I1 f1 c1 => ?_)⟩
  · have z : nI (opn ws) < nI 8 := z
    rw [n_lt (by omega) (by omega)] at z
    rw [if_neg (by omega)] at hK
    rw [n_succ]
    obtain ⟨J1, e1, y1, k1⟩ := zsI_ex I L P 5 0 6 (nI (opn ws + 1))
    rw [e1]
    dsimp only [zk_24, zl_24]
    rw [y1, n_cl (n := opn ws + 1) (by omega), nar0]
    refine ⟨n_zin (by omega) (by decide), ?_⟩
    obtain ⟨J2, e2, y2, k2⟩ := zsI_ex J1 L P 24 0 (opn ws + 1) 0
    rw [e2]
    refine ⟨Or.inr rfl, ?_⟩
    obtain ⟨J3, e3, y3, k3⟩ := zsI_ex J2 L P 5 0 7 1
    rw [e3]
    have a3 : ∀ a b c, ¬ (a = 5 ∧ b = 0 ∧ (c = 6 ∨ c = 7)) → ¬ (a = 24 ∧ b = 0 ∧ c = opn ws + 1) → J3 a b c = I a b c := fun a b c u1 u2 => by
      rw [k3 a b c (by omega), k2 a b c (by omega), k1 a b c (by omega)]
    have st3 : stC B n m (.inl i) J3 := x1.q (fun q => a3 _ _ _ (by omega) (by omega)) (a3 _ _ _ (by decide) (by omega)) (a3 _ _ _ (by decide) (by omega))
    have m3 : TKm B n m J3 := hm.q (fun a c q => a3 _ _ _ (by omega) (by omega))
    refine p_push (k := 22) (h0 := ws.length) ((a3 _ _ _ (by decide) (by omega)).trans x3.1) l72 (fun j ej => by omega) st3 (fun I4 f4 g4 _ => ?_)
    obtain ⟨v1, v2⟩ := g4 i rfl
    have st4 : stC B n m (.inl i) I4 := st3.q (fun q => f4 _ _ _ (by omega) (by omega)) (f4 _ _ _ (by omega) (by decide)) (f4 _ _ _ (by omega) (by decide))
    have m4 : TKm B n m I4 := m3.q (fun a c q => f4 _ _ _ (by omega) (by omega))
    dsimp only [x_int, x_lng, x_ild, x_lld, x_ald, x_ist, x_ast, x_lst, x_inc, x_ii, x_id, x_i, x_ll, x_ld, x_l, x_cmp, x_i2l, x_l2i, x_if, x_ic, x_dup, x_pop, x_dup2, x_gI, x_gL, x_gR, x_g1, x_g0, x_gP, x_pI, x_pZ, x_pL, x_pP, x_al, x_as, x_all, x_asl, x_alr, x_len, x_cpy, x_m2, x_m1, x_m2l, x_m1l, x_call, x_cv, x_ri, x_rz, x_rl, x_rv, zg, zset, zbef, zlong, zcat, cond_true, cond_false, List.take, List.drop, rv1, rv2, rv3, rv4, rv5, rv6, rv7, sm0, sm1, bl0, bl1, bl2, bl3, bl4, bl5, bl6, bl7, bl8, List.nil_append, List.cons_append, List.length_cons, List.length_nil, Nat.reduceBEq, Nat.reduceAdd, Nat.reduceSub, ta, tb, tn0, tn1, tn2, tn3, tn4, tn5, tn6, tn7, tn8, tn9, tn10, tn11, tn12]
    refine p_tak (k := 22) hE n7 (by decide) m4 st4 (fun I5 f5 c5 => ?_)
    rw [show tkA B n 22 (.inl i) = .inl (i + 1) from if_pos hk] at c5
    have al : ∀ a b c, ¬ (a = 5 ∧ b = 0 ∧ (c = 6 ∨ c = 7 ∨ c = 5)) → ¬ (a = 24 ∧ b = 0 ∧ c = opn ws + 1) → ¬ (a = 23 ∧ b = 0 ∧ c = ws.length) → ¬ rdK a b c → I5 a b c = I a b c := fun a b c u1 u2 u3 u4 => by
      rw [f5 a b c u4, f4 a b c u3 (by omega), a3 a b c (by omega) u2]
    refine hK I5 (fun a b c z => al a b c (fun u => z (by unfold dK; omega)) (fun u => z (by unfold dK; omega)) (fun u => z (by unfold dK; omega)) (fun u => z (by unfold rdK at u; unfold dK; omega))) (al _ _ _ (by omega) (by omega) (by omega) (by unfold rdK; omega)) (m4.r f5) ?_
    refine ⟨c5, CQ_law hw x2 (fun a b c u1 u2 u3 => al a b c (by omega) (by omega) (by omega) (by unfold rdK; omega)) ?_ xl.2.1 ?_ (fun j hj => ?_), sgR_push x3 ?_ ?_ (fun c u => ?_), ?_, ?_, ⟨fun _ => ?_, ?_⟩, ?_⟩
    · rw [al _ _ _ (by omega) (by omega) (by omega) (by unfold rdK; omega)]
      exact x2.1.2.2.2.2.2.2.1.2.2.trans setL_13
    · rw [al _ _ _ (by omega) (by omega) (by omega) (by unfold rdK; omega)]; exact xl.1
    · rw [al _ _ _ (by omega) (by omega) (by omega) (by unfold rdK; omega)]; exact xl.2.2 j hj
    · rw [f5 _ _ _ (by omega)]; exact v1
    · rw [f5 _ _ _ (by omega)]; exact v2
    · rw [al _ _ _ (by omega) (by omega) (by omega) (by unfold rdK; omega)]
    · show I5 5 0 6 = nI (opn ws + 1)
      rw [f5 _ _ _ (by omega), f4 _ _ _ (by omega) (by decide), k3 _ _ _ (by decide), k2 _ _ _ (by omega)]; exact y1
    · show I5 24 0 (opn ws + 1) = bI false
      rw [f5 _ _ _ (by omega), f4 _ _ _ (by omega) (by omega), k3 _ _ _ (by omega)]; exact y2
    · rw [al _ _ _ (by omega) (by omega) (by omega) (by unfold rdK; omega)]; exact x5
    · exact x6.q (o := opn ws) (Nat.le_refl _) (fun c hc => al _ _ _ (by omega) (by omega) (by omega) (by unfold rdK; omega))
    · rw [f5 _ _ _ (by omega), f4 _ _ _ (by omega) (by decide)]; exact y3
  · have z : ¬ nI (opn ws) < nI 8 := z
    rw [n_lt (by omega) (by omega)] at z
    rw [if_pos (show opn ws = 8 by omega)] at hK
    exact hK I1 f1.D (f1 _ _ _ (by omega)) (hm.r f1) ⟨c1, ws.length, opn ws, l72, i3, (f1 _ _ _ (by omega)).trans x3.1, (f1 _ _ _ (by omega)).trans x4⟩
theorem p_closeBracket {K : zQ} {I : zI} {L : zJ} {P : zP} {B : Nat → Nat} {n m d w c0 i cnt : Nat} {Q : aQ} {cs : List Int32} {ws : List Nat} {mn : Bool} (hy : rdY B n m d w P) (hm : TKm B n m I) (hX : XC B n m d w Q (i, cs, ws, false, mn, cnt) I) (hI : XI c0 (i, cs, ws, false, mn, cnt)) (hk : kd B n i = 23) (ho : 0 < opn ws) (hK : ∀ I' : zI, frD d I I' → I' 9 d 12 = I 9 d 12 → TKm B n m I' → xout B n m d w Q (xst B n (i, cs, ws, false, mn, cnt)) I' → K [] (I', L, P)) : mX5_closeBracket K [rdR] (I, L, P) := by
  obtain ⟨⟨hE, n7, hP, d2⟩, hL, hw⟩ := hy
  have l72 := hI.l72
  obtain ⟨-, -, i3, i4, i5, i6⟩ := hI
  dsimp only at l72 i3 i4 i5 i6
  have xl := hX.law hw
  obtain ⟨x1, x2, x3, x4, x5, x6, x7⟩ := hX
  dsimp only at x1 x2 x3 x4 x5 x6 x7 xl
  have ol := opn_le ws
  obtain ⟨l, e1, e2⟩ := pop1_open ho i6
  have pl := popC_len (r := 1) (ws := ws)
  have pib := icB_pop (r := 1) x6
  have ol2 := opn_le l
  have xe : xst B n (i, cs, ws, false, mn, cnt) = .inr (.inr (i + 1, cs ++ (popC 1 ws).1, l, false, mn, cnt)) := by
    unfold xst
    dsimp only
    rw [if_neg (by decide), if_pos ⟨hk, ho⟩, e1]
    rfl
  rw [xe] at hK
  rw [e1] at pl pib
  rw [List.length_cons] at pl
  show bX5_closeBracket_0 K [some (.inr (.inr (5,0)))] [] (I, L, P)
  unfold bX5_closeBracket_0
  dsimp only [x_int, x_lng, x_ild, x_lld, x_ald, x_ist, x_ast, x_lst, x_inc, x_ii, x_id, x_i, x_ll, x_ld, x_l, x_cmp, x_i2l, x_l2i, x_if, x_ic, x_dup, x_pop, x_dup2, x_gI, x_gL, x_gR, x_g1, x_g0, x_gP, x_pI, x_pZ, x_pL, x_pP, x_al, x_as, x_all, x_asl, x_alr, x_len, x_cpy, x_m2, x_m1, x_m2l, x_m1l, x_call, x_cv, x_ri, x_rz, x_rl, x_rv, zg, zset, zbef, zlong, zcat, cond_true, cond_false, List.take, List.drop, rv1, rv2, rv3, rv4, rv5, rv6, rv7, sm0, sm1, bl0, bl1, bl2, bl3, bl4, bl5, bl6, bl7, bl8, List.nil_append, List.cons_append, List.length_cons, List.length_nil, Nat.reduceBEq, Nat.reduceAdd, Nat.reduceSub, ta, tb, tn0, tn1, tn2, tn3, tn4, tn5, tn6, tn7, tn8, tn9, tn10, tn11, tn12]
  refine p_release (q := 3 * d + w) (r := 1) ⟨hL, by omega⟩ xl.1 xl.2.2 x3 l72 (by omega) (fun x hx => sgK_35 (i6 x hx)) (by omega) x1 (fun I1 f1 s1 l1 c1 => ?_)
  rw [e1] at s1
  dsimp only [x_int, x_lng, x_ild, x_lld, x_ald, x_ist, x_ast, x_lst, x_inc, x_ii, x_id, x_i, x_ll, x_ld, x_l, x_cmp, x_i2l, x_l2i, x_if, x_ic, x_dup, x_pop, x_dup2, x_gI, x_gL, x_gR, x_g1, x_g0, x_gP, x_pI, x_pZ, x_pL, x_pP, x_al, x_as, x_all, x_asl, x_alr, x_len, x_cpy, x_m2, x_m1, x_m2l, x_m1l, x_call, x_cv, x_ri, x_rz, x_rl, x_rv, zg, zset, zbef, zlong, zcat, cond_true, cond_false, List.take, List.drop, rv1, rv2, rv3, rv4, rv5, rv6, rv7, sm0, sm1, bl0, bl1, bl2, bl3, bl4, bl5, bl6, bl7, bl8, List.nil_append, List.cons_append, List.length_cons, List.length_nil, Nat.reduceBEq, Nat.reduceAdd, Nat.reduceSub, ta, tb, tn0, tn1, tn2, tn3, tn4, tn5, tn6, tn7, tn8, tn9, tn10, tn11, tn12]
  rw [s1.1, List.length_cons]
  refine ⟨fun z => ?_, fun _ => ?_⟩
  · have z : nI (l.length + 1) ≤ nI 0 := z
    rw [n_le (by omega) (by omega)] at z
    omega
  rw [n_pred]
  obtain ⟨J2, g2, y2, k2⟩ := zsI_ex I1 L P 5 0 5 (nI l.length)
  rw [g2]
  have s2 := (sgR_top s1).2 J2 y2 (fun c => k2 _ _ _ (by omega))
  have op2 : J2 5 0 6 = nI (opn l + 1) := by rw [k2 _ _ _ (by decide), f1 _ _ _ (by decide) (by omega), x4, e2]
  unfold bX5_closeBracket_22
  dsimp only [x_int, x_lng, x_ild, x_lld, x_ald, x_ist, x_ast, x_lst, x_inc, x_ii, x_id, x_i, x_ll, x_ld, x_l, x_cmp, x_i2l, x_l2i, x_if, x_ic, x_dup, x_pop, x_dup2, x_gI, x_gL, x_gR, x_g1, x_g0, x_gP, x_pI, x_pZ, x_pL, x_pP, x_al, x_as, x_all, x_asl, x_alr, x_len, x_cpy, x_m2, x_m1, x_m2l, x_m1l, x_call, x_cv, x_ri, x_rz, x_rl, x_rv, zg, zset, zbef, zlong, zcat, cond_true, cond_false, List.take, List.drop, rv1, rv2, rv3, rv4, rv5, rv6, rv7, sm0, sm1, bl0, bl1, bl2, bl3, bl4, bl5, bl6, bl7, bl8, List.nil_append, List.cons_append, List.length_cons, List.length_nil, Nat.reduceBEq, Nat.reduceAdd, Nat.reduceSub, ta, tb, tn0, tn1, tn2, tn3, tn4, tn5, tn6, tn7, tn8, tn9, tn10, tn11, tn12]
  rw [op2, n_pred]
  obtain ⟨J3, g3, y3, k3⟩ := zsI_ex J2 L P 5 0 6 (nI (opn l))
  rw [g3]
  have a3 : ∀ a b c, ¬ (a = 5 ∧ b = 0 ∧ (c = 6 ∨ c = 5)) → ¬ ((a = 16 ∨ a = 2) ∧ b = 3 * d + w) → J3 a b c = I a b c := fun a b c u1 u2 => by
    rw [k3 a b c (by omega), k2 a b c (by omega), f1 a b c (by omega) u2]
  have st3 : stC B n m (.inl i) J3 := x1.q (fun q => a3 _ _ _ (by omega) (by omega)) (a3 _ _ _ (by decide) (by omega)) (a3 _ _ _ (by decide) (by omega))
  have m3 : TKm B n m J3 := hm.q (fun a c q => a3 _ _ _ (by omega) (by omega))
  refine p_tak (k := 23) hE n7 (by decide) m3 st3 (fun I5 f5 c5 => ?_)
  rw [show tkA B n 23 (.inl i) = .inl (i + 1) from if_pos hk] at c5
  have al : ∀ a b c, ¬ (a = 5 ∧ b = 0 ∧ (c = 6 ∨ c = 5)) → ¬ ((a = 16 ∨ a = 2) ∧ b = 3 * d + w) → ¬ rdK a b c → I5 a b c = I a b c := fun a b c u1 u2 u4 => by
    rw [f5 a b c u4, a3 a b c u1 u2]
  have lw : ∀ a b c, a = 16 ∨ a = 2 → I5 a b c = I1 a b c := fun a b c u => by rw [f5 a b c (by omega), k3 a b c (by omega), k2 a b c (by omega)]
  refine hK I5 (fun a b c z => al a b c (fun u => z (by unfold dK; omega)) (fun u => z (by unfold dK; omega)) (fun u => z (by unfold rdK at u; unfold dK; omega))) (al _ _ _ (by omega) (by omega) (by unfold rdK; omega)) (m3.r f5) ?_
  refine ⟨c5, CQ_law hw x2 (fun a b c u1 u2 u3 => al a b c (by omega) (by omega) (by unfold rdK; omega)) ?_ ?_ ?_ (fun j hj => ?_), s2.q ?_ (fun c => ?_), ?_, ?_, ?_, ?_⟩
  · rw [al _ _ _ (by omega) (by omega) (by unfold rdK; omega)]
    exact x2.1.2.2.2.2.2.2.1.2.2.trans setL_13
  · dsimp only; rw [List.length_append]; omega
  · rw [lw _ _ _ (by omega)]; exact l1
  · rw [lw _ _ _ (by omega)]; exact c1 j hj
  · rw [f5 _ _ _ (by omega), k3 _ _ _ (by decide)]
  · rw [f5 _ _ _ (by omega), k3 _ _ _ (by omega)]
  · rw [f5 _ _ _ (by omega)]; exact y3
  · rw [al _ _ _ (by omega) (by omega) (by unfold rdK; omega)]; exact pib.1 rfl
  · exact pib.2.q (o := opn l) (Nat.le_refl _) (fun c _ => al _ _ _ (by omega) (by omega) (by unfold rdK; omega))
  · rw [al _ _ _ (by omega) (by omega) (by unfold rdK; omega)]; exact x7
