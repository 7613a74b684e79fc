theorem setL_id {T : aT} {w cnt : Nat} (h1 : T.2.2 w = []) (h2 : T.2.1 13 0 = nI cnt) : setL T w [] cnt = T := by
  unfold setL
  obtain ⟨T1, T2, T3⟩ := T
  dsimp only at h1 h2 ⊢
  congr 1
  congr 1
  · funext a i
    by_cases c : a = 13 ∧ i = 0
    · rw [if_pos c, c.1, c.2, h2]
    · rw [if_neg c]
  · funext q
    by_cases c : q = w
    · rw [if_pos c, c, h1]
    · rw [if_neg c]
/-- knots told so far -/
def QK (T : aT) : Prop := ∃ c, c ≤ 64 ∧ T.2.1 13 0 = nI c
theorem rdX.p {B : Nat → Nat} {n m d : Nat} {P P' : zP} (h : rdX B n m d P) (e : P' 5 0 3 = P 5 0 3) : rdX B n m d P' := ⟨h.1, h.2.1, e.trans h.2.2.1, h.2.2.2⟩
theorem p_readLaw {K : zQ} {I : zI} {L : zJ} {P : zP} {B : Nat → Nat} {n m d i : Nat} {Q : aQ} (hx : rdX B n m d P) (hm : TKm B n m I) (hQ : CQ I d Q) (hQK : QK Q.1) (h : stC B n m (.inl i) I) (hk : kd B n i = 5) (hK : ∀ (I' : zI) (P' : zP), frD d I I' → (∀ a b c, ¬ (a = 5 ∧ b = 0 ∧ c = 4) → P' a b c = P a b c) → I' 9 d 12 = I 9 d 12 → TKm B n m I' → stC B n m (bodA B n Q i).1 I' → (∀ j, (bodA B n Q i).1 = .inl j → CQ I' d (bodA B n Q i).2) → K [] (I', L, P')) : mX5_readLaw K [rdR] (I, L, P) := by
  have hx0 := hx
  obtain ⟨hE, n7, hP, d2⟩ := hx
  obtain ⟨cnt, c64, ec⟩ := hQK
  have bd : bodA B n Q i = laA B n Q i := (if_neg (by omega)).trans ((if_neg (by omega)).trans ((if_neg (by omega)).trans ((if_neg (by omega)).trans ((if_neg (by omega)).trans (if_pos hk)))))
  rw [bd] at hK
  show bX5_readLaw_0 K [some (.inr (.inr (5,0))), none] [] (I, L, P)
  unfold bX5_readLaw_0
  dsimp only [x_int, x_lng, x_ild, x_lld, x_ald, x_ist, x_ast, x_lst, x_inc, x_ii, x_id, x_i, x_ll, x_ld, x_l, x_cmp, x_i2l, x_l2i, x_if, x_ic, x_dup, x_pop, x_dup2, x_gI, x_gL, x_gR, x_g1, x_g0, x_gP, x_pI, x_pZ, x_pL, x_pP, x_al, x_as, x_all, x_asl, x_alr, x_len, x_cpy, x_m2, x_m1, x_m2l, x_m1l, x_call, x_cv, x_ri, x_rz, x_rl, x_rv, zg, zset, zbef, zlong, zcat, cond_true, cond_false, List.take, List.drop, rv1, rv2, rv3, rv4, rv5, rv6, rv7, sm0, sm1, bl0, bl1, bl2, bl3, bl4, bl5, bl6, bl7, bl8, List.nil_append, List.cons_append, List.length_cons, List.length_nil, Nat.reduceBEq, Nat.reduceAdd, Nat.reduceSub, ta, tb, tn0, tn1, tn2, tn3, tn4, tn5, tn6, tn7, tn8, tn9, tn10, tn11, tn12]
  refine p_tak (k := 5) hE n7 (by decide) hm h (fun I1 f1 c1 => ?_)
  rw [show tkA B n 5 (.inl i) = .inl (i + 1) from if_pos hk] at c1
  have m1 := hm.r f1
  have Q1 := hQ.rd f1
  have kl := kd_le B n (i + 1)
  dsimp only [x_int, x_lng, x_ild, x_lld, x_ald, x_ist, x_ast, x_lst, x_inc, x_ii, x_id, x_i, x_ll, x_ld, x_l, x_cmp, x_i2l, x_l2i, x_if, x_ic, x_dup, x_pop, x_dup2, x_gI, x_gL, x_gR, x_g1, x_g0, x_gP, x_pI, x_pZ, x_pL, x_pP, x_al, x_as, x_all, x_asl, x_alr, x_len, x_cpy, x_m2, x_m1, x_m2l, x_m1l, x_call, x_cv, x_ri, x_rz, x_rl, x_rv, zg, zset, zbef, zlong, zcat, cond_true, cond_false, List.take, List.drop, rv1, rv2, rv3, rv4, rv5, rv6, rv7, sm0, sm1, bl0, bl1, bl2, bl3, bl4, bl5, bl6, bl7, bl8, List.nil_append, List.cons_append, List.length_cons, List.length_nil, Nat.reduceBEq, Nat.reduceAdd, Nat.reduceSub, ta, tb, tn0, tn1, tn2, tn3, tn4, tn5, tn6, tn7, tn8, tn9, tn10, tn11, tn12]
  rw [c1.2.2.2.2.1]
  have bad : (kd B n (i + 1) < 6 ∨ 8 < kd B n (i + 1)) → bX5_readLaw_25 K [some rdR, some (.inl (nI (kd B n (i + 1))))] [] (I1, L, P) := fun z => by
    have le : laA B n Q i = (.inr (1, i + 1), Q) := if_pos z
    rw [le] at hK
    unfold bX5_readLaw_25
    dsimp only [x_int, x_lng, x_ild, x_lld, x_ald, x_ist, x_ast, x_lst, x_inc, x_ii, x_id, x_i, x_ll, x_ld, x_l, x_cmp, x_i2l, x_l2i, x_if, x_ic, x_dup, x_pop, x_dup2, x_gI, x_gL, x_gR, x_g1, x_g0, x_gP, x_pI, x_pZ, x_pL, x_pP, x_al, x_as, x_all, x_asl, x_alr, x_len, x_cpy, x_m2, x_m1, x_m2l, x_m1l, x_call, x_cv, x_ri, x_rz, x_rl, x_rv, zg, zset, zbef, zlong, zcat, cond_true, cond_false, List.take, List.drop, rv1, rv2, rv3, rv4, rv5, rv6, rv7, sm0, sm1, bl0, bl1, bl2, bl3, bl4, bl5, bl6, bl7, bl8, List.nil_append, List.cons_append, List.length_cons, List.length_nil, Nat.reduceBEq, Nat.reduceAdd, Nat.reduceSub, ta, tb, tn0, tn1, tn2, tn3, tn4, tn5, tn6, tn7, tn8, tn9, tn10, tn11, tn12]
    refine p_fail (st := .inl (i + 1)) (e := 1) (by omega) c1 (fun I2 f2 c2 => ?_)
    dsimp only [x_int, x_lng, x_ild, x_lld, x_ald, x_ist, x_ast, x_lst, x_inc, x_ii, x_id, x_i, x_ll, x_ld, x_l, x_cmp, x_i2l, x_l2i, x_if, x_ic, x_dup, x_pop, x_dup2, x_gI, x_gL, x_gR, x_g1, x_g0, x_gP, x_pI, x_pZ, x_pL, x_pP, x_al, x_as, x_all, x_asl, x_alr, x_len, x_cpy, x_m2, x_m1, x_m2l, x_m1l, x_call, x_cv, x_ri, x_rz, x_rl, x_rv, zg, zset, zbef, zlong, zcat, cond_true, cond_false, List.take, List.drop, rv1, rv2, rv3, rv4, rv5, rv6, rv7, sm0, sm1, bl0, bl1, bl2, bl3, bl4, bl5, bl6, bl7, bl8, List.nil_append, List.cons_append, List.length_cons, List.length_nil, Nat.reduceBEq, Nat.reduceAdd, Nat.reduceSub, ta, tb, tn0, tn1, tn2, tn3, tn4, tn5, tn6, tn7, tn8, tn9, tn10, tn11, tn12]
    exact hK I2 P (f1.tr f2).D (fun _ _ _ _ => rfl) ((f2 _ _ _ (by omega)).trans (f1 _ _ _ (by omega))) (m1.r f2) c2 (fun j ej => by cases ej)
  refine ⟨fun z => bad (Or.inl ?_), fun z => ⟨fun y => ?_, fun y => bad (Or.inr ?_)⟩⟩
  · have z : nI (kd B n (i + 1)) < nI 6 := z
    rw [n_lt (by omega) (by omega)] at z
    exact z
  · have z : ¬ nI (kd B n (i + 1)) < nI 6 := z
    have y : nI (kd B n (i + 1)) ≤ nI 8 := y
    rw [n_lt (by omega) (by omega)] at z
    rw [n_le (by omega) (by omega)] at y
    obtain ⟨w, hw⟩ : ∃ w, kd B n (i + 1) = w + 6 := ⟨kd B n (i + 1) - 6, by omega⟩
    have lw := Q1.1.law (i := w) (by omega)
    have le : laA B n Q i = if ¬ Q.1.2.2 w = [] then (.inr (3, i + 1), Q) else match exA B n (i + 2) cnt with
      | .inl e => (.inr e, Q)
      | .inr (j, cs, cnt) => (.inl j, (setL Q.1 w cs cnt, Q.2)) := by
      unfold laA
      rw [if_neg (by omega), hw, show w + 6 - 6 = w by omega, ec, n_cl (n := cnt) (by omega)]
      rfl
    rw [hw, hP, show nI (w + 6) - 6 = nI w by rw [show (6 : Int32) = nI 6 from rfl, pk_sub (by omega)]; rfl]
    dsimp only [zl_46]
    rw [n_cl (n := w) (by omega)]
    refine ⟨d2, n_zin (by omega) (by decide), ?_⟩
    obtain ⟨P1, eP, wP, fP⟩ := zsP_ex I1 L P 5 0 4 (3 * d + w)
    rw [eP]
    dsimp only
    rw [wP, lw.2.1]
    have hx1 : rdX B n m d P1 := hx0.p (fP _ _ _ (by decide))
    have hy : rdY B n m d w P1 := ⟨hx1, wP, by omega⟩
    have b62 : ∀ (I2 : zI) (st : aR), frRd I1 I2 → stC B n m st I2 → ((st = .inl (i + 1) ∧ Q.1.2.2 w = []) ∨ (st = .inr (3, i + 1) ∧ ¬ Q.1.2.2 w = [])) → bX5_readLaw_62 K [some rdR, some (.inl (nI (w + 6)))] [] (I2, L, P1) := fun I2 st f2 c2 hs => by
      unfold bX5_readLaw_62
      dsimp only [x_int, x_lng, x_ild, x_lld, x_ald, x_ist, x_ast, x_lst, x_inc, x_ii, x_id, x_i, x_ll, x_ld, x_l, x_cmp, x_i2l, x_l2i, x_if, x_ic, x_dup, x_pop, x_dup2, x_gI, x_gL, x_gR, x_g1, x_g0, x_gP, x_pI, x_pZ, x_pL, x_pP, x_al, x_as, x_all, x_asl, x_alr, x_len, x_cpy, x_m2, x_m1, x_m2l, x_m1l, x_call, x_cv, x_ri, x_rz, x_rl, x_rv, zg, zset, zbef, zlong, zcat, cond_true, cond_false, List.take, List.drop, rv1, rv2, rv3, rv4, rv5, rv6, rv7, sm0, sm1, bl0, bl1, bl2, bl3, bl4, bl5, bl6, bl7, bl8, List.nil_append, List.cons_append, List.length_cons, List.length_nil, Nat.reduceBEq, Nat.reduceAdd, Nat.reduceSub, ta, tb, tn0, tn1, tn2, tn3, tn4, tn5, tn6, tn7, tn8, tn9, tn10, tn11, tn12]
      refine p_tak (k := w + 6) hE n7 (by omega) (m1.r f2) c2 (fun I3 f3 c3 => ?_)
      have F3 : frRd I I3 := (f1.tr f2).tr f3
      have m3 := hm.r F3
      dsimp only [x_int, x_lng, x_ild, x_lld, x_ald, x_ist, x_ast, x_lst, x_inc, x_ii, x_id, x_i, x_ll, x_ld, x_l, x_cmp, x_i2l, x_l2i, x_if, x_ic, x_dup, x_pop, x_dup2, x_gI, x_gL, x_gR, x_g1, x_g0, x_gP, x_pI, x_pZ, x_pL, x_pP, x_al, x_as, x_all, x_asl, x_alr, x_len, x_cpy, x_m2, x_m1, x_m2l, x_m1l, x_call, x_cv, x_ri, x_rz, x_rl, x_rv, zg, zset, zbef, zlong, zcat, cond_true, cond_false, List.take, List.drop, rv1, rv2, rv3, rv4, rv5, rv6, rv7, sm0, sm1, bl0, bl1, bl2, bl3, bl4, bl5, bl6, bl7, bl8, List.nil_append, List.cons_append, List.length_cons, List.length_nil, Nat.reduceBEq, Nat.reduceAdd, Nat.reduceSub, ta, tb, tn0, tn1, tn2, tn3, tn4, tn5, tn6, tn7, tn8, tn9, tn10, tn11, tn12]
      rcases hs with ⟨s1, s2⟩ | ⟨s1, s2⟩
      · rw [if_neg (fun u => u s2)] at le
        rw [le] at hK
        rw [s1, show tkA B n (w + 6) (.inl (i + 1)) = .inl (i + 2) from if_pos hw] at c3
        have Q3 : CQ I3 d (setL Q.1 w [] cnt, Q.2) := by rw [setL_id s2 ec]; exact hQ.rd F3
        refine p_readExp hy m3 c3 Q3 c64 (fun I4 f4 l4 t4 x4 => ?_)
        dsimp only [x_int, x_lng, x_ild, x_lld, x_ald, x_ist, x_ast, x_lst, x_inc, x_ii, x_id, x_i, x_ll, x_ld, x_l, x_cmp, x_i2l, x_l2i, x_if, x_ic, x_dup, x_pop, x_dup2, x_gI, x_gL, x_gR, x_g1, x_g0, x_gP, x_pI, x_pZ, x_pL, x_pP, x_al, x_as, x_all, x_asl, x_alr, x_len, x_cpy, x_m2, x_m1, x_m2l, x_m1l, x_call, x_cv, x_ri, x_rz, x_rl, x_rv, zg, zset, zbef, zlong, zcat, cond_true, cond_false, List.take, List.drop, rv1, rv2, rv3, rv4, rv5, rv6, rv7, sm0, sm1, bl0, bl1, bl2, bl3, bl4, bl5, bl6, bl7, bl8, List.nil_append, List.cons_append, List.length_cons, List.length_nil, Nat.reduceBEq, Nat.reduceAdd, Nat.reduceSub, ta, tb, tn0, tn1, tn2, tn3, tn4, tn5, tn6, tn7, tn8, tn9, tn10, tn11, tn12]
        refine hK I4 P1 ((F3.D).tr f4) (fun a b c u => fP a b c u) (l4.trans (F3 _ _ _ (by omega))) t4 ?_ ?_
        · cases ex : exA B n (i + 2) cnt with
          | inl e => rw [ex] at x4; exact x4
          | inr r => obtain ⟨j, cs, cn⟩ := r; rw [ex] at x4; exact x4.1
        · cases ex : exA B n (i + 2) cnt with
          | inl e => intro j ej; cases ej
          | inr r => obtain ⟨j, cs, cn⟩ := r; rw [ex] at x4; intro _ _; exact x4.2.1
      · rw [if_pos s2] at le
        rw [le] at hK
        rw [s1] at c3
        refine p_readExpF (d := d) m3 c3 (fun I4 f4 l4 t4 x4 => ?_)
        dsimp only [x_int, x_lng, x_ild, x_lld, x_ald, x_ist, x_ast, x_lst, x_inc, x_ii, x_id, x_i, x_ll, x_ld, x_l, x_cmp, x_i2l, x_l2i, x_if, x_ic, x_dup, x_pop, x_dup2, x_gI, x_gL, x_gR, x_g1, x_g0, x_gP, x_pI, x_pZ, x_pL, x_pP, x_al, x_as, x_all, x_asl, x_alr, x_len, x_cpy, x_m2, x_m1, x_m2l, x_m1l, x_call, x_cv, x_ri, x_rz, x_rl, x_rv, zg, zset, zbef, zlong, zcat, cond_true, cond_false, List.take, List.drop, rv1, rv2, rv3, rv4, rv5, rv6, rv7, sm0, sm1, bl0, bl1, bl2, bl3, bl4, bl5, bl6, bl7, bl8, List.nil_append, List.cons_append, List.length_cons, List.length_nil, Nat.reduceBEq, Nat.reduceAdd, Nat.reduceSub, ta, tb, tn0, tn1, tn2, tn3, tn4, tn5, tn6, tn7, tn8, tn9, tn10, tn11, tn12]
        exact hK I4 P1 ((F3.D).tr f4) (fun a b c u => fP a b c u) ((l4 _).trans (F3 _ _ _ (by omega))) t4 x4 (fun j ej => by cases ej)
    have ll : (Q.1.2.2 w).length ≤ 64 := lw.1
    refine ⟨by show 3 * d + w < 6; omega, fun u => b62 I1 (.inl (i + 1)) frRd.rf c1 (Or.inl ⟨rfl, ?_⟩), fun u => p_fail (st := .inl (i + 1)) (e := 3) (by omega) c1 (fun I2 f2 c2 => b62 I2 _ f2 c2 (Or.inr ⟨rfl, fun v => u ?_⟩))⟩
    · have u : nI (Q.1.2.2 w).length ≤ nI 0 := u
      rw [n_le (by omega) (by omega)] at u
      exact List.eq_nil_of_length_eq_zero (by omega)
    · rw [v]; exact Int32.le_refl _
  · have y : ¬ nI (kd B n (i + 1)) ≤ nI 8 := y
    rw [n_le (by omega) (by omega)] at y
    omega
theorem p_readLine {K : zQ} {I : zI} {L : zJ} {P : zP} {B : Nat → Nat} {n m d i k : Nat} {Q : aQ} (hx : rdX B n m d P) (hm : TKm B n m I) (hQ : CQ I d Q) (hQK : QK Q.1) (h : stC B n m (.inl i) I) (hl : I 9 d 12 = nI k) (hK : ∀ (I' : zI) (P' : zP), frD d I I' → (∀ a b c, ¬ (a = 5 ∧ b = 0 ∧ c = 4) → P' a b c = P a b c) → TKm B n m I' → stC B n m (lnA B n Q i).1 I' → (∀ j, (lnA B n Q i).1 = .inl j → CQ I' d (lnA B n Q i).2 ∧ I' 9 d 12 = nI (k + 1)) → K [] (I', L, P')) : mX5_readLine K [rdR] (I, L, P) := by
  have hx0 := hx
  obtain ⟨hE, n7, hP, d2⟩ := hx
  have kl := kd_le B n i
  have tail : ∀ (I1 : zI) (P1 : zP), frD d I I1 → (∀ a b c, ¬ (a = 5 ∧ b = 0 ∧ c = 4) → P1 a b c = P a b c) → I1 9 d 12 = I 9 d 12 → TKm B n m I1 → stC B n m (bodA B n Q i).1 I1 → (∀ j, (bodA B n Q i).1 = .inl j → CQ I1 d (bodA B n Q i).2) → bX5_readLine_91 K [some rdR] [] (I1, L, P1) := fun I1 P1 f1 p1 l1 t1 s1 q1 => by
    unfold bX5_readLine_91
    dsimp only [x_int, x_lng, x_ild, x_lld, x_ald, x_ist, x_ast, x_lst, x_inc, x_ii, x_id, x_i, x_ll, x_ld, x_l, x_cmp, x_i2l, x_l2i, x_if, x_ic, x_dup, x_pop, x_dup2, x_gI, x_gL, x_gR, x_g1, x_g0, x_gP, x_pI, x_pZ, x_pL, x_pP, x_al, x_as, x_all, x_asl, x_alr, x_len, x_cpy, x_m2, x_m1, x_m2l, x_m1l, x_call, x_cv, x_ri, x_rz, x_rl, x_rv, zg, zset, zbef, zlong, zcat, cond_true, cond_false, List.take, List.drop, rv1, rv2, rv3, rv4, rv5, rv6, rv7, sm0, sm1, bl0, bl1, bl2, bl3, bl4, bl5, bl6, bl7, bl8, List.nil_append, List.cons_append, List.length_cons, List.length_nil, Nat.reduceBEq, Nat.reduceAdd, Nat.reduceSub, ta, tb, tn0, tn1, tn2, tn3, tn4, tn5, tn6, tn7, tn8, tn9, tn10, tn11, tn12]
    refine p_tak (k := 21) hE n7 (by decide) t1 s1 (fun I2 f2 c2 => ?_)
    dsimp only [x_int, x_lng, x_ild, x_lld, x_ald, x_ist, x_ast, x_lst, x_inc, x_ii, x_id, x_i, x_ll, x_ld, x_l, x_cmp, x_i2l, x_l2i, x_if, x_ic, x_dup, x_pop, x_dup2, x_gI, x_gL, x_gR, x_g1, x_g0, x_gP, x_pI, x_pZ, x_pL, x_pP, x_al, x_as, x_all, x_asl, x_alr, x_len, x_cpy, x_m2, x_m1, x_m2l, x_m1l, x_call, x_cv, x_ri, x_rz, x_rl, x_rv, zg, zset, zbef, zlong, zcat, cond_true, cond_false, List.take, List.drop, rv1, rv2, rv3, rv4, rv5, rv6, rv7, sm0, sm1, bl0, bl1, bl2, bl3, bl4, bl5, bl6, bl7, bl8, List.nil_append, List.cons_append, List.length_cons, List.length_nil, Nat.reduceBEq, Nat.reduceAdd, Nat.reduceSub, ta, tb, tn0, tn1, tn2, tn3, tn4, tn5, tn6, tn7, tn8, tn9, tn10, tn11, tn12]
    rw [p1 5 0 _ (by decide), hP]
    refine ⟨d2, ?_⟩
    rw [f2 _ _ _ (by omega), l1, hl, n_succ]
    obtain ⟨J3, e3, x3, k3⟩ := zsI_ex I2 L P1 9 d 12 (nI (k + 1))
    rw [e3]
    refine hK J3 P1 (fun a b c u => ?_) p1 ((t1.r f2).q (fun a c q => k3 _ _ _ (by omega))) (c2.q (fun q => k3 _ _ _ (by omega)) (k3 _ _ _ (by omega)) (k3 _ _ _ (by omega))) (fun j ej => ⟨?_, x3⟩)
    · rw [k3 a b c (fun v => u (by unfold dK; omega)), f2 a b c (fun v => u (by unfold dK; omega))]; exact f1 a b c u
    · have ej : tkA B n 21 (bodA B n Q i).1 = .inl j := ej
      have : ∃ j0, (bodA B n Q i).1 = .inl j0 := by
        cases e : (bodA B n Q i).1 with
        | inl j0 => exact ⟨j0, rfl⟩
        | inr x => rw [e] at ej; cases ej
      obtain ⟨j0, e0⟩ := this
      obtain ⟨g1, g2, g3, g4, g5, g6⟩ := (q1 j0 e0).rd f2
      have w9 : ∀ c, ¬ c = 12 → J3 9 d c = I2 9 d c := fun c u => k3 _ _ _ (by omega)
      have o : ∀ a b c, ¬ a = 9 → J3 a b c = I2 a b c := fun a b c u => k3 _ _ _ (by omega)
      refine ⟨?_, fun x hx q hq => by rw [o _ _ _ (by omega)]; exact g2 x hx q hq, (w9 _ (by decide)).trans g3, (w9 _ (by decide)).trans g4, (w9 _ (by decide)).trans g5, (w9 _ (by decide)).trans g6⟩
      obtain ⟨h1, h2, h3, h4, h5, h6, h7, h8⟩ := g1
      refine ⟨h1, ?_, h3, fun x hx => ?_, fun x hx => ?_, fun x hx => ?_, ?_, fun x hx => ?_⟩
      · rw [w9 _ (by decide), w9 _ (by decide), w9 _ (by decide)]; exact h2
      · rw [o _ _ _ (by omega), o _ _ _ (by omega), o _ _ _ (by omega)]
        have o14 : ∀ b c, J3 14 b c = I2 14 b c := fun b c => o _ _ _ (by omega)
        simp only [o14]
        exact h4 x hx
      · rw [o _ _ _ (by omega), o _ _ _ (by omega), o _ _ _ (by omega), o _ _ _ (by omega)]; exact h5 x hx
      · rw [o _ _ _ (by omega), o _ _ _ (by omega), o _ _ _ (by omega)]; exact h6 x hx
      · rw [w9 _ (by decide), w9 _ (by decide), w9 _ (by decide)]; exact h7
      · rw [o _ _ _ (by omega)]
        refine ⟨(h8 x hx).1, (h8 x hx).2.1, fun q hq => ?_⟩
        rw [o _ _ _ (by omega)]; exact (h8 x hx).2.2 q hq
  show bX5_readLine_0 K [some (.inr (.inr (5,0)))] [] (I, L, P)
  unfold bX5_readLine_0
  dsimp only [x_int, x_lng, x_ild, x_lld, x_ald, x_ist, x_ast, x_lst, x_inc, x_ii, x_id, x_i, x_ll, x_ld, x_l, x_cmp, x_i2l, x_l2i, x_if, x_ic, x_dup, x_pop, x_dup2, x_gI, x_gL, x_gR, x_g1, x_g0, x_gP, x_pI, x_pZ, x_pL, x_pP, x_al, x_as, x_all, x_asl, x_alr, x_len, x_cpy, x_m2, x_m1, x_m2l, x_m1l, x_call, x_cv, x_ri, x_rz, x_rl, x_rv, zg, zset, zbef, zlong, zcat, cond_true, cond_false, List.take, List.drop, rv1, rv2, rv3, rv4, rv5, rv6, rv7, sm0, sm1, bl0, bl1, bl2, bl3, bl4, bl5, bl6, bl7, bl8, List.nil_append, List.cons_append, List.length_cons, List.length_nil, Nat.reduceBEq, Nat.reduceAdd, Nat.reduceSub, ta, tb, tn0, tn1, tn2, tn3, tn4, tn5, tn6, tn7, tn8, tn9, tn10, tn11, tn12, g_sw]
  rw [h.2.2.2.2.1]
  have ee : ∀ q : Nat, q < 100 → (nI (kd B n i) = nI q ↔ kd B n i = q) := fun q hq => n_eq (by omega) (by omega)
  refine ⟨fun z => p_readHand hx0 hm hQ h ((ee 0 (by omega)).mp z) (fun I1 a1 a2 a3 a4 a5 => tail I1 P a1 (fun _ _ _ _ => rfl) a2 a3 a4 a5), fun z0 => ⟨fun z => p_readWood hx0 hm hQ h ((ee 1 (by omega)).mp z) (fun I1 a1 a2 a3 a4 a5 => tail I1 P a1 (fun _ _ _ _ => rfl) a2 a3 a4 a5), fun z1 => ⟨fun z => p_readRap hx0 hm hQ h ((ee 2 (by omega)).mp z) (fun I1 a1 a2 a3 a4 a5 => tail I1 P a1 (fun _ _ _ _ => rfl) a2 a3 a4 a5), fun z2 => ⟨fun z => p_readLike hx0 hm hQ h ((ee 3 (by omega)).mp z) (fun I1 a1 a2 a3 a4 a5 => tail I1 P a1 (fun _ _ _ _ => rfl) a2 a3 a4 a5), fun z3 => ⟨fun z => p_readSeed hx0 hm hQ h ((ee 4 (by omega)).mp z) (fun I1 a1 a2 a3 a4 a5 => tail I1 P a1 (fun _ _ _ _ => rfl) a2 a3 a4 a5), fun z4 => ⟨fun z => p_readLaw hx0 hm hQ hQK h ((ee 5 (by omega)).mp z) (fun I1 P1 a1 ap a2 a3 a4 a5 => tail I1 P1 a1 ap a2 a3 a4 a5), fun z5 => p_fail (st := .inl i) (e := 1) (by omega) h (fun I1 f1 c1 => ?_)⟩⟩⟩⟩⟩⟩
  have n0 : ∀ q, q < 100 → ¬ nI (kd B n i) = nI q → ¬ kd B n i = q := fun q hq u v => u ((ee q hq).mpr v)
  have bd : bodA B n Q i = (.inr (1, i), Q) := (if_neg (n0 0 (by omega) z0)).trans ((if_neg (n0 1 (by omega) z1)).trans ((if_neg (n0 2 (by omega) z2)).trans ((if_neg (n0 3 (by omega) z3)).trans ((if_neg (n0 4 (by omega) z4)).trans (if_neg (n0 5 (by omega) z5))))))
  refine tail I1 P f1.D (fun _ _ _ _ => rfl) (f1 _ _ _ (by omega)) (hm.r f1) (by rw [bd]; exact c1) (fun j ej => by rw [bd] at ej; cases ej)
