theorem p_rapLine {K : zQ} {I : zI} {L : zJ} {P : zP} {B : Nat → Nat} {n i : Nat} {Q : aQ} (hp : RTp B n I) (hQ : RQ I Q) (h : tkR B n i I) (hk : kd B n i = 2) (hK : ∀ I' : zI, frG I I' → stR B n (bodA B n Q i).1 I' → (∀ j, (bodA B n Q i).1 = .inl j → RQ I' (bodA B n Q i).2) → K [.inl (aB (bodA B n Q i).1)] (I', L, P)) : mX12_rapLine K [refR] (I, L, P) := by
  obtain ⟨⟨q1, q2, q3⟩, ⟨b6, b4, b10⟩, qh, qw, qr, qo, ql, qf⟩ := hQ
  have bd : bodA B n Q i = (if Q.1.1 2 < 10 then nuA B n 0 99 (tnA B n (Q.1.2.1 4) (Q.1.1 1) (tnA B n (Q.1.2.1 0) (Q.1.1 0) (.inl (i + 1)))) else .inr (2, i), (addR Q.1 (raG B n Q.1 i), Q.2)) := by
    unfold bodA
    rw [if_neg (by omega), if_neg (by omega), if_pos hk]
  rw [bd] at hK
  show bX12_rapLine_0 K [some (.inr (.inr (12,0)))] [] (I, L, P)
  unfold bX12_rapLine_0
  dsimp only [x_int, x_lng, x_ild, x_lld, x_ald, x_ist, x_ast, x_lst, x_inc, x_ii, x_id, x_i, x_ll, x_ld, x_l, x_cmp, x_i2l, x_l2i, x_if, x_ic, x_dup, x_pop, x_dup2, x_gI, x_gL, x_gR, x_g1, x_g0, x_gP, x_pI, x_pZ, x_pL, x_pP, x_al, x_as, x_all, x_asl, x_alr, x_len, x_cpy, x_m2, x_m1, x_m2l, x_m1l, x_call, x_cv, x_ri, x_rz, x_rl, x_rv, zg, zset, zbef, zlong, zcat, cond_true, cond_false, List.take, List.drop, rv1, rv2, rv3, rv4, rv5, rv6, rv7, sm0, sm1, bl0, bl1, bl2, bl3, bl4, bl5, bl6, bl7, bl8, List.nil_append, List.cons_append, List.length_cons, List.length_nil, Nat.reduceBEq, Nat.reduceAdd, Nat.reduceSub, ta, tb, tn0, tn1, tn2, tn3, tn4, tn5, tn6, tn7, tn8, tn9, tn10, tn11, tn12]
  rw [q3]
  refine ⟨fun z => p_wrong (e := 2) h (fun I1 f1 s1 => ?_), fun z => p_next hp h (fun I1 f1 t1 => ?_)⟩
  · have z : nI (Q.1.1 2) = nI 10 := z
    rw [n_eq (by omega) (by omega)] at z
    dsimp only at hK
    rw [if_neg (by omega)] at hK
    exact ⟨Or.inl rfl, hK I1 (wrong_G f1) s1 (fun j ej => by cases ej)⟩
  have z : ¬ nI (Q.1.1 2) = nI 10 := z
  rw [n_eq (by omega) (by omega)] at z
  dsimp only at hK
  rw [if_pos (by omega)] at hK
  generalize hc : Q.1.1 2 = c at *
  let F : Nat → Nat → Prop := fun a q => (a = 12 ∧ (4 ≤ q ∧ q ≤ 11 ∧ ¬ q = 6)) ∨ ((63 ≤ a ∧ a ≤ 65) ∧ q = 10 + c)
  have FG : ∀ {J : zI}, ony F I J → frG I J := fun g => g.mono (fun a q u => by unfold rrK; have u : (a = 12 ∧ (4 ≤ q ∧ q ≤ 11 ∧ ¬ q = 6)) ∨ ((63 ≤ a ∧ a ≤ 65) ∧ q = 10 + c) := u; omega)
  have ke : ∀ {J : zI}, ony F I J → ∀ a q, ¬ (a = 12 ∧ (4 ≤ q ∧ q ≤ 11 ∧ ¬ q = 6)) → ¬ ((63 ≤ a ∧ a ≤ 65) ∧ q = 10 + c) → J a 0 q = I a 0 q := fun g a q u1 u2 => g.lo (fun u => u.elim u1 u2)
  have F1 : ony F I I1 := fun a b q u => f1 a b q (fun v => u ⟨v.2.1, Or.inl ⟨v.1, by omega⟩⟩)
  have r18 : ∀ {J : zI}, ony F I J → J 12 0 18 = nI c := fun g => (ke g _ _ (by decide) (by omega)).trans q3
  have r17 : ∀ {J : zI}, ony F I J → J 12 0 17 = nI (Q.1.1 1) := fun g => (ke g _ _ (by decide) (by omega)).trans q2
  have r16 : ∀ {J : zI}, ony F I J → J 12 0 16 = nI (Q.1.1 0) := fun g => (ke g _ _ (by decide) (by omega)).trans q1
  have exitR : ∀ (J : zI) (x : Nat × Nat), ony F I J → stR B n (.inr x) J → nuA B n 0 99 (tnA B n (Q.1.2.1 4) (Q.1.1 1) (tnA B n (Q.1.2.1 0) (Q.1.1 0) (.inl (i + 1)))) = .inr x → K [.inl 0] (J, L, P) := fun J x g1 g2 g3 => by
    rw [g3] at hK
    exact hK J (FG g1) g2 (fun j ej => by cases ej)
  dsimp only [x_int, x_lng, x_ild, x_lld, x_ald, x_ist, x_ast, x_lst, x_inc, x_ii, x_id, x_i, x_ll, x_ld, x_l, x_cmp, x_i2l, x_l2i, x_if, x_ic, x_dup, x_pop, x_dup2, x_gI, x_gL, x_gR, x_g1, x_g0, x_gP, x_pI, x_pZ, x_pL, x_pP, x_al, x_as, x_all, x_asl, x_alr, x_len, x_cpy, x_m2, x_m1, x_m2l, x_m1l, x_call, x_cv, x_ri, x_rz, x_rl, x_rv, zg, zset, zbef, zlong, zcat, cond_true, cond_false, List.take, List.drop, rv1, rv2, rv3, rv4, rv5, rv6, rv7, sm0, sm1, bl0, bl1, bl2, bl3, bl4, bl5, bl6, bl7, bl8, List.nil_append, List.cons_append, List.length_cons, List.length_nil, Nat.reduceBEq, Nat.reduceAdd, Nat.reduceSub, ta, tb, tn0, tn1, tn2, tn3, tn4, tn5, tn6, tn7, tn8, tn9, tn10, tn11, tn12]
  rw [r16 F1]
  refine p_thereIn (o := 6) (f := Q.1.2.1 0) rfl (by show 6 + Q.1.1 0 ≤ 12; omega) (by decide) (fun y hy => ?_) (hp.g (FG F1)) t1 (fun I2 f2 s2 v2 => ?_)
  · rw [ke F1 _ _ (by omega) (by omega)]; exact (qh y hy).1
  have F2 : ony F I I2 := F1.tr (f2.mono (fun a q u => Or.inl u))
  dsimp only [x_int, x_lng, x_ild, x_lld, x_ald, x_ist, x_ast, x_lst, x_inc, x_ii, x_id, x_i, x_ll, x_ld, x_l, x_cmp, x_i2l, x_l2i, x_if, x_ic, x_dup, x_pop, x_dup2, x_gI, x_gL, x_gR, x_g1, x_g0, x_gP, x_pI, x_pZ, x_pL, x_pP, x_al, x_as, x_all, x_asl, x_alr, x_len, x_cpy, x_m2, x_m1, x_m2l, x_m1l, x_call, x_cv, x_ri, x_rz, x_rl, x_rv, zg, zset, zbef, zlong, zcat, cond_true, cond_false, List.take, List.drop, rv1, rv2, rv3, rv4, rv5, rv6, rv7, sm0, sm1, bl0, bl1, bl2, bl3, bl4, bl5, bl6, bl7, bl8, List.nil_append, List.cons_append, List.length_cons, List.length_nil, Nat.reduceBEq, Nat.reduceAdd, Nat.reduceSub, ta, tb, tn0, tn1, tn2, tn3, tn4, tn5, tn6, tn7, tn8, tn9, tn10, tn11, tn12]
  cases e2 : tnA B n (Q.1.2.1 0) (Q.1.1 0) (.inl (i + 1)) with
  | inr x =>
    rw [e2] at s2
    exact ⟨fun _ => ⟨Or.inl rfl, exitR I2 x F2 s2 (by rw [e2]; rfl)⟩, fun y => absurd rfl y⟩
  | inl j2 =>
    have v2 := v2 _ e2
    obtain ⟨_, _, a1, a2, -⟩ := tnA_inl e2
    cases a1
    subst a2
    rw [e2] at s2
    rw [e2] at exitR hK
    have t2 : tkR B n (i + 1 + 1) I2 := s2
    refine ⟨fun y => absurd y (show ¬ (1 : Int32) = 0 by decide), fun _ => ?_⟩
    dsimp only [zk_63, zl_63, cond_true]
    rw [r18 F2, v2, show (10 : Int32) + nI c = nI (10 + c) from n_add 10 c, n_cl (n := 10 + c) (by omega)]
    refine ⟨n_zin (by show 10 + c < 20; omega) (by decide), ?_⟩
    obtain ⟨J2, g2, x2, k2⟩ := zsI_ex I2 L P 63 0 (10 + c) (wbR (fnd (Q.1.2.1 0) (vl B n (i + 1)) (Q.1.1 0)))
    rw [g2]
    have G2 : ony F I J2 := fun a b q u => (k2 a b q (fun v => u ⟨v.2.1, Or.inr ⟨by omega, v.2.2⟩⟩)).trans (F2 a b q u)
    dsimp only [x_int, x_lng, x_ild, x_lld, x_ald, x_ist, x_ast, x_lst, x_inc, x_ii, x_id, x_i, x_ll, x_ld, x_l, x_cmp, x_i2l, x_l2i, x_if, x_ic, x_dup, x_pop, x_dup2, x_gI, x_gL, x_gR, x_g1, x_g0, x_gP, x_pI, x_pZ, x_pL, x_pP, x_al, x_as, x_all, x_asl, x_alr, x_len, x_cpy, x_m2, x_m1, x_m2l, x_m1l, x_call, x_cv, x_ri, x_rz, x_rl, x_rv, zg, zset, zbef, zlong, zcat, cond_true, cond_false, List.take, List.drop, rv1, rv2, rv3, rv4, rv5, rv6, rv7, sm0, sm1, bl0, bl1, bl2, bl3, bl4, bl5, bl6, bl7, bl8, List.nil_append, List.cons_append, List.length_cons, List.length_nil, Nat.reduceBEq, Nat.reduceAdd, Nat.reduceSub, ta, tb, tn0, tn1, tn2, tn3, tn4, tn5, tn6, tn7, tn8, tn9, tn10, tn11, tn12]
    rw [r17 G2]
    refine p_thereIn (o := 4) (f := Q.1.2.1 4) rfl (by show 4 + Q.1.1 1 ≤ 8; omega) (by decide) (fun y hy => ?_) (hp.g (FG G2)) (t2.q (fun q u1 u2 => k2 _ _ _ (by omega))) (fun I3 f3 s3 v3 => ?_)
    · rw [ke G2 _ _ (by omega) (by omega)]; exact (qw y hy).1
    have F3 : ony F I I3 := G2.tr (f3.mono (fun a q u => Or.inl u))
    dsimp only [x_int, x_lng, x_ild, x_lld, x_ald, x_ist, x_ast, x_lst, x_inc, x_ii, x_id, x_i, x_ll, x_ld, x_l, x_cmp, x_i2l, x_l2i, x_if, x_ic, x_dup, x_pop, x_dup2, x_gI, x_gL, x_gR, x_g1, x_g0, x_gP, x_pI, x_pZ, x_pL, x_pP, x_al, x_as, x_all, x_asl, x_alr, x_len, x_cpy, x_m2, x_m1, x_m2l, x_m1l, x_call, x_cv, x_ri, x_rz, x_rl, x_rv, zg, zset, zbef, zlong, zcat, cond_true, cond_false, List.take, List.drop, rv1, rv2, rv3, rv4, rv5, rv6, rv7, sm0, sm1, bl0, bl1, bl2, bl3, bl4, bl5, bl6, bl7, bl8, List.nil_append, List.cons_append, List.length_cons, List.length_nil, Nat.reduceBEq, Nat.reduceAdd, Nat.reduceSub, ta, tb, tn0, tn1, tn2, tn3, tn4, tn5, tn6, tn7, tn8, tn9, tn10, tn11, tn12]
    cases e3 : tnA B n (Q.1.2.1 4) (Q.1.1 1) (.inl (i + 1 + 1)) with
    | inr x =>
      rw [e3] at s3
      exact ⟨fun _ => ⟨Or.inl rfl, exitR I3 x F3 s3 (by rw [e3]; rfl)⟩, fun y => absurd rfl y⟩
    | inl j3 =>
      have v3 := v3 _ e3
      obtain ⟨_, _, a1, a2, -⟩ := tnA_inl e3
      cases a1
      subst a2
      rw [e3] at s3
      rw [e3] at exitR hK
      have t3 : tkR B n (i + 1 + 1 + 1) I3 := s3
      refine ⟨fun y => absurd y (show ¬ (1 : Int32) = 0 by decide), fun _ => ?_⟩
      dsimp only [zk_64, zl_64, cond_true]
      rw [r18 F3, v3, show (10 : Int32) + nI c = nI (10 + c) from n_add 10 c, n_cl (n := 10 + c) (by omega)]
      refine ⟨n_zin (by show 10 + c < 20; omega) (by decide), ?_⟩
      obtain ⟨J3, g3, x3, k3⟩ := zsI_ex I3 L P 64 0 (10 + c) (wbR (fnd (Q.1.2.1 4) (vl B n (i + 1 + 1)) (Q.1.1 1)))
      rw [g3]
      have G3 : ony F I J3 := fun a b q u => (k3 a b q (fun v => u ⟨v.2.1, Or.inr ⟨by omega, v.2.2⟩⟩)).trans (F3 a b q u)
      refine p_number (lo := 0) (hi := 99) (by omega) (hp.g (FG G3)) (t3.q (fun q u1 u2 => k3 _ _ _ (by omega))) (fun I5 f5 s5 v5 => ?_)
      have F5 : ony F I I5 := G3.tr (f5.mono (fun a q u => Or.inl u))
      dsimp only [x_int, x_lng, x_ild, x_lld, x_ald, x_ist, x_ast, x_lst, x_inc, x_ii, x_id, x_i, x_ll, x_ld, x_l, x_cmp, x_i2l, x_l2i, x_if, x_ic, x_dup, x_pop, x_dup2, x_gI, x_gL, x_gR, x_g1, x_g0, x_gP, x_pI, x_pZ, x_pL, x_pP, x_al, x_as, x_all, x_asl, x_alr, x_len, x_cpy, x_m2, x_m1, x_m2l, x_m1l, x_call, x_cv, x_ri, x_rz, x_rl, x_rv, zg, zset, zbef, zlong, zcat, cond_true, cond_false, List.take, List.drop, rv1, rv2, rv3, rv4, rv5, rv6, rv7, sm0, sm1, bl0, bl1, bl2, bl3, bl4, bl5, bl6, bl7, bl8, List.nil_append, List.cons_append, List.length_cons, List.length_nil, Nat.reduceBEq, Nat.reduceAdd, Nat.reduceSub, ta, tb, tn0, tn1, tn2, tn3, tn4, tn5, tn6, tn7, tn8, tn9, tn10, tn11, tn12]
      cases e5 : nuA B n 0 99 (.inl (i + 1 + 1 + 1)) with
      | inr x =>
        rw [e5] at s5
        exact ⟨fun _ => ⟨Or.inl rfl, exitR I5 x F5 s5 e5⟩, fun y => absurd rfl y⟩
      | inl j5 =>
        have v5 := v5 _ e5
        rw [e5] at s5
        have hk5 := hK
        rw [e5] at hk5
        refine ⟨fun y => absurd y (show ¬ (1 : Int32) = 0 by decide), fun _ => ?_⟩
        dsimp only [zk_65, zl_65, cond_true]
        rw [r18 F5, v5, show (10 : Int32) + nI c = nI (10 + c) from n_add 10 c, n_cl (n := 10 + c) (by omega)]
        refine ⟨n_zin (by show 10 + c < 20; omega) (by decide), ?_⟩
        obtain ⟨J5, g5, x5, k5⟩ := zsI_ex I5 L P 65 0 (10 + c) (vl B n (i + 1 + 1 + 1))
        rw [g5]
        have G5 : ony F I J5 := fun a b q u => (k5 a b q (fun v => u ⟨v.2.1, Or.inr ⟨by omega, v.2.2⟩⟩)).trans (F5 a b q u)
        dsimp only [x_int, x_lng, x_ild, x_lld, x_ald, x_ist, x_ast, x_lst, x_inc, x_ii, x_id, x_i, x_ll, x_ld, x_l, x_cmp, x_i2l, x_l2i, x_if, x_ic, x_dup, x_pop, x_dup2, x_gI, x_gL, x_gR, x_g1, x_g0, x_gP, x_pI, x_pZ, x_pL, x_pP, x_al, x_as, x_all, x_asl, x_alr, x_len, x_cpy, x_m2, x_m1, x_m2l, x_m1l, x_call, x_cv, x_ri, x_rz, x_rl, x_rv, zg, zset, zbef, zlong, zcat, cond_true, cond_false, List.take, List.drop, rv1, rv2, rv3, rv4, rv5, rv6, rv7, sm0, sm1, bl0, bl1, bl2, bl3, bl4, bl5, bl6, bl7, bl8, List.nil_append, List.cons_append, List.length_cons, List.length_nil, Nat.reduceBEq, Nat.reduceAdd, Nat.reduceSub, ta, tb, tn0, tn1, tn2, tn3, tn4, tn5, tn6, tn7, tn8, tn9, tn10, tn11, tn12]
        rw [r18 G5, n_succ]
        obtain ⟨J7, g7, x7, k7⟩ := zsI_ex J5 L P 12 0 18 (nI (c + 1))
        rw [g7]
        refine ⟨Or.inr rfl, hk5 J7 (fun a b q u => (k7 a b q (fun v => u ⟨v.2.1, by unfold rrK; omega⟩)).trans (FG G5 a b q u)) (tkR.q s5 (fun q u1 u2 => (k7 _ _ _ (by omega)).trans (k5 _ _ _ (by omega)))) (fun _ _ => ?_)⟩
        have al : ∀ a q, ¬ (a = 12 ∧ ((4 ≤ q ∧ q ≤ 11) ∨ q = 18)) → ¬ ((63 ≤ a ∧ a ≤ 65) ∧ q = 10 + c) → J7 a 0 q = I a 0 q := fun a q u1 u2 => by
          rw [k7 a 0 q (by omega)]
          exact ke G5 a q (by omega) u2
        have T1 : (addR Q.1 (raG B n Q.1 i)).1 2 = c + 1 := by rw [← hc]; rfl
        have T0 : ∀ q, ¬ q = 2 → (addR Q.1 (raG B n Q.1 i)).1 q = Q.1.1 q := fun q w => if_neg w
        have Fd : ∀ a x, ¬ ((8 ≤ a ∧ a ≤ 10) ∧ x = c) → (addR Q.1 (raG B n Q.1 i)).2.1 a x = Q.1.2.1 a x := fun a x w1 => by
          unfold addR
          dsimp only
          rw [hc, if_neg w1]
        have G : ∀ a, 8 ≤ a → a ≤ 10 → (addR Q.1 (raG B n Q.1 i)).2.1 a c = raG B n Q.1 i (a - 8) := fun a w w2 => by
          unfold addR
          dsimp only
          rw [hc, if_pos ⟨⟨w, w2⟩, rfl⟩]
        refine ⟨⟨?_, ?_, ?_⟩, ⟨?_, ?_, ?_⟩, fun x hx => ?_, fun x hx => ?_, fun x hx => ?_, ⟨?_, ?_, ?_, ?_⟩, fun q hq => ?_, ?_, ?_⟩
        · dsimp only; rw [al _ _ (by decide) (by omega), T0 0 (by decide)]; exact q1
        · dsimp only; rw [al _ _ (by decide) (by omega), T0 1 (by decide)]; exact q2
        · dsimp only; rw [x7, T1]
        · dsimp only; rw [T0 0 (by decide)]; exact b6
        · dsimp only; rw [T0 1 (by decide)]; exact b4
        · dsimp only; rw [T1]; omega
        · dsimp only at hx ⊢
          rw [T0 0 (by decide)] at hx
          obtain ⟨u1, u2, u3, u4⟩ := qh x hx
          rw [al _ _ (by omega) (by omega), al _ _ (by omega) (by omega), al _ _ (by omega) (by omega), Fd 0 x (by omega), Fd 1 x (by omega), Fd 2 x (by omega)]
          refine ⟨u1, u2, u3, fun q hq => ?_⟩
          rw [al _ _ (by omega) (by omega), Fd 3 _ (by omega)]; exact u4 q hq
        · dsimp only at hx ⊢
          rw [T0 1 (by decide)] at hx
          rw [al _ _ (by omega) (by omega), al _ _ (by omega) (by omega), al _ _ (by omega) (by omega), al _ _ (by omega) (by omega), Fd 4 x (by omega), Fd 5 x (by omega), Fd 6 x (by omega), Fd 7 x (by omega)]
          exact qw x hx
        · dsimp only at hx ⊢
          rw [T1] at hx
          by_cases e : x = c
          · subst e
            rw [G 8 (by omega) (by omega), G 9 (by omega) (by omega), G 10 (by omega) (by omega)]
            refine ⟨?_, ?_, ?_⟩
            · rw [k7 _ _ _ (by omega), k5 _ _ _ (by omega), f5 _ _ _ (by omega), k3 _ _ _ (by omega), f3 _ _ _ (by omega)]; exact x2
            · rw [k7 _ _ _ (by omega), k5 _ _ _ (by omega), f5 _ _ _ (by omega)]; exact x3
            · rw [k7 _ _ _ (by omega)]; exact x5
          · rw [al _ _ (by omega) (by omega), al _ _ (by omega) (by omega), al _ _ (by omega) (by omega), Fd 8 x (by omega), Fd 9 x (by omega), Fd 10 x (by omega)]
            exact qr x (by omega)
        · dsimp only; rw [al _ _ (by omega) (by omega), Fd 11 0 (by omega)]; exact qo.1
        · dsimp only; rw [al _ _ (by omega) (by omega), Fd 12 0 (by omega)]; exact qo.2.1
        · dsimp only; rw [al _ _ (by decide) (by omega), Fd 13 0 (by omega)]; exact qo.2.2.1
        · dsimp only; rw [al _ _ (by decide) (by omega), Fd 13 0 (by omega)]; exact qo.2.2.2
        · dsimp only; rw [Fd 13 0 (by omega)]; exact (ql q hq).f hq (fun a x u => al _ _ (by omega) (by omega)) (fun a x u v => al _ _ (by omega) (by omega))
        · dsimp only; rw [al _ _ (by omega) (by omega)]; exact qf.1
        · dsimp only; rw [al _ _ (by omega) (by omega)]; exact qf.2
/-- a like line, a seed line -/
theorem p_onceLine {K : zQ} {I : zI} {L : zJ} {P : zP} {B : Nat → Nat} {n i w hi : Nat} {Q : aQ} (hw : (w = 0 ∧ hi = 24) ∨ (w = 1 ∧ hi = 99999)) (hp : RTp B n I) (hQ : RQ I Q) (h : tkR B n i I) (hk : kd B n i = 3 + w) (hK : ∀ I' : zI, frG I I' → stR B n (bodA B n Q i).1 I' → (∀ j, (bodA B n Q i).1 = .inl j → RQ I' (bodA B n Q i).2) → K [.inl (aB (bodA B n Q i).1)] (I', L, P)) : mX12_onceLine K [refR, .inl (nI w), .inl (nI hi)] (I, L, P) := by
  obtain ⟨⟨q1, q2, q3⟩, ⟨b6, b4, b10⟩, qh, qw, qr, qo, ql, qf⟩ := hQ
  obtain ⟨fl, hfl, If, b1⟩ : ∃ fl : Bool, (w = 0 → fl = Q.2.1) ∧ (w = 1 → fl = Q.2.2) ∧ I 53 0 w = bI fl := by
    rcases hw with ⟨rfl, _⟩ | ⟨rfl, _⟩
    · exact ⟨Q.2.1, fun _ => rfl, fun z => absurd z (by decide), qf.1⟩
    · exact ⟨Q.2.2, fun z => absurd z (by decide), fun _ => rfl, qf.2⟩
  have bd : bodA B n Q i = (if fl = true then .inr (3, i) else nuA B n 0 hi (.inl (i + 1)), (setF Q.1 (11 + w) (vl B n (i + 1)), (if w = 0 then true else Q.2.1), (if w = 1 then true else Q.2.2))) := by
    unfold bodA
    rcases hw with ⟨rfl, rfl⟩ | ⟨rfl, rfl⟩
    · rw [if_neg (by omega), if_neg (by omega), if_neg (by omega), if_pos (by omega), hfl rfl]; rfl
    · rw [if_neg (by omega), if_neg (by omega), if_neg (by omega), if_neg (by omega), if_pos (by omega), If rfl]; rfl
  rw [bd] at hK
  show bX12_onceLine_0 K [some (.inr (.inr (12,0))), some (.inl (nI w)), some (.inl (nI hi))] [] (I, L, P)
  unfold bX12_onceLine_0
  dsimp only [x_int, x_lng, x_ild, x_lld, x_ald, x_ist, x_ast, x_lst, x_inc, x_ii, x_id, x_i, x_ll, x_ld, x_l, x_cmp, x_i2l, x_l2i, x_if, x_ic, x_dup, x_pop, x_dup2, x_gI, x_gL, x_gR, x_g1, x_g0, x_gP, x_pI, x_pZ, x_pL, x_pP, x_al, x_as, x_all, x_asl, x_alr, x_len, x_cpy, x_m2, x_m1, x_m2l, x_m1l, x_call, x_cv, x_ri, x_rz, x_rl, x_rv, zg, zset, zbef, zlong, zcat, cond_true, cond_false, List.take, List.drop, rv1, rv2, rv3, rv4, rv5, rv6, rv7, sm0, sm1, bl0, bl1, bl2, bl3, bl4, bl5, bl6, bl7, bl8, List.nil_append, List.cons_append, List.length_cons, List.length_nil, Nat.reduceBEq, Nat.reduceAdd, Nat.reduceSub, ta, tb, tn0, tn1, tn2, tn3, tn4, tn5, tn6, tn7, tn8, tn9, tn10, tn11, tn12, zk_53, zl_53, cond_true]
  rw [n_cl (n := w) (by omega), b1]
  refine ⟨n_zin (by show w < 2; omega) (by decide), fun z => ?_, fun z => ?_⟩
  rotate_left
  · cases fl with
    | false => exact absurd rfl z
    | true =>
      refine p_wrong (e := 3) h (fun I1 f1 s1 => ?_)
      exact ⟨Or.inl rfl, hK I1 (wrong_G f1) s1 (fun j ej => by cases ej)⟩
  · cases fl with
    | true => exact absurd z (by decide)
    | false =>
      dsimp only at hK
      rw [if_neg (by decide)] at hK
      refine ⟨n_zin (by show w < 2; omega) (by decide), ?_⟩
      obtain ⟨J1, g1, x1, k1⟩ := zsI_ex I L P 53 0 w (1 : Int32)
      have g1 : zsI (I, L, P) 53 0 w (vp_nar .boolean 1) = (J1, L, P) := g1
      rw [g1]
      have K1 : frG I J1 := fun a b q u => k1 a b q (fun v => u ⟨v.2.1, by unfold rrK; omega⟩)
      refine p_next (hp.g K1) (h.q (fun q u1 u2 => k1 _ _ _ (by omega))) (fun I2 f2 t2 => ?_)
      have F2 : frG I I2 := K1.tr (frK_G f2)
      dsimp only [x_int, x_lng, x_ild, x_lld, x_ald, x_ist, x_ast, x_lst, x_inc, x_ii, x_id, x_i, x_ll, x_ld, x_l, x_cmp, x_i2l, x_l2i, x_if, x_ic, x_dup, x_pop, x_dup2, x_gI, x_gL, x_gR, x_g1, x_g0, x_gP, x_pI, x_pZ, x_pL, x_pP, x_al, x_as, x_all, x_asl, x_alr, x_len, x_cpy, x_m2, x_m1, x_m2l, x_m1l, x_call, x_cv, x_ri, x_rz, x_rl, x_rv, zg, zset, zbef, zlong, zcat, cond_true, cond_false, List.take, List.drop, rv1, rv2, rv3, rv4, rv5, rv6, rv7, sm0, sm1, bl0, bl1, bl2, bl3, bl4, bl5, bl6, bl7, bl8, List.nil_append, List.cons_append, List.length_cons, List.length_nil, Nat.reduceBEq, Nat.reduceAdd, Nat.reduceSub, ta, tb, tn0, tn1, tn2, tn3, tn4, tn5, tn6, tn7, tn8, tn9, tn10, tn11, tn12]
      refine p_number (lo := 0) (hi := hi) (by omega) (hp.g F2) t2 (fun I3 f3 s3 v3 => ?_)
      have F3 : frG I I3 := F2.tr (num_G f3)
      dsimp only [x_int, x_lng, x_ild, x_lld, x_ald, x_ist, x_ast, x_lst, x_inc, x_ii, x_id, x_i, x_ll, x_ld, x_l, x_cmp, x_i2l, x_l2i, x_if, x_ic, x_dup, x_pop, x_dup2, x_gI, x_gL, x_gR, x_g1, x_g0, x_gP, x_pI, x_pZ, x_pL, x_pP, x_al, x_as, x_all, x_asl, x_alr, x_len, x_cpy, x_m2, x_m1, x_m2l, x_m1l, x_call, x_cv, x_ri, x_rz, x_rl, x_rv, zg, zset, zbef, zlong, zcat, cond_true, cond_false, List.take, List.drop, rv1, rv2, rv3, rv4, rv5, rv6, rv7, sm0, sm1, bl0, bl1, bl2, bl3, bl4, bl5, bl6, bl7, bl8, List.nil_append, List.cons_append, List.length_cons, List.length_nil, Nat.reduceBEq, Nat.reduceAdd, Nat.reduceSub, ta, tb, tn0, tn1, tn2, tn3, tn4, tn5, tn6, tn7, tn8, tn9, tn10, tn11, tn12]
      cases e3 : nuA B n 0 hi (.inl (i + 1)) with
      | inr x =>
        rw [e3] at s3
        rw [e3] at hK
        exact ⟨fun _ => ⟨Or.inl rfl, hK I3 F3 s3 (fun j ej => by cases ej)⟩, fun y => absurd rfl y⟩
      | inl j3 =>
        have v3 := v3 _ e3
        rw [e3] at s3
        rw [e3] at hK
        refine ⟨fun y => absurd y (show ¬ (1 : Int32) = 0 by decide), fun _ => ?_⟩
        dsimp only [zk_54, zl_54, cond_true]
        rw [v3, show (2 : Int32) + nI w = nI (2 + w) from n_add 2 w, n_cl (n := 2 + w) (by omega)]
        refine ⟨n_zin (by show 2 + w < 4; omega) (by decide), ?_⟩
        obtain ⟨J4, g4, x4, k4⟩ := zsI_ex I3 L P 54 0 (2 + w) (vl B n (i + 1))
        rw [g4]
        refine ⟨Or.inr rfl, hK J4 (fun a b q u => (k4 a b q (fun v => u ⟨v.2.1, by unfold rrK; omega⟩)).trans (F3 a b q u)) (tkR.q s3 (fun q u1 u2 => k4 _ _ _ (by omega))) (fun _ _ => ?_)⟩
        have al : ∀ a q, ¬ (a = 12 ∧ (4 ≤ q ∧ q ≤ 11)) → ¬ (a = 53 ∧ q = w) → ¬ (a = 54 ∧ q = 2 + w) → J4 a 0 q = I a 0 q := fun a q u1 u2 u3 => by
          rw [k4 a 0 q (by omega), f3 a 0 q (by omega), f2 a 0 q (by omega), k1 a 0 q (by omega)]
        have Fd : ∀ a x, ¬ (a = 11 + w ∧ x = 0) → (setF Q.1 (11 + w) (vl B n (i + 1))).2.1 a x = Q.1.2.1 a x := fun a x u => if_neg u
        have Gd : (setF Q.1 (11 + w) (vl B n (i + 1))).2.1 (11 + w) 0 = vl B n (i + 1) := if_pos ⟨rfl, rfl⟩
        have w53 : J4 53 0 w = 1 := by rw [k4 _ _ _ (by omega), f3 _ _ _ (by omega), f2 _ _ _ (by omega)]; exact x1
        refine ⟨⟨?_, ?_, ?_⟩, ⟨b6, b4, b10⟩, fun x hx => ?_, fun x hx => ?_, fun x hx => ?_, ⟨?_, ?_, ?_, ?_⟩, fun q hq => ?_, ?_, ?_⟩
        · rw [al _ _ (by decide) (by omega) (by omega)]; exact q1
        · rw [al _ _ (by decide) (by omega) (by omega)]; exact q2
        · rw [al _ _ (by decide) (by omega) (by omega)]; exact q3
        · dsimp only at hx ⊢
          obtain ⟨u1, u2, u3, u4⟩ := qh x hx
          rw [al _ _ (by omega) (by omega) (by omega), al _ _ (by omega) (by omega) (by omega), al _ _ (by omega) (by omega) (by omega), Fd 0 x (by omega), Fd 1 x (by omega), Fd 2 x (by omega)]
          refine ⟨u1, u2, u3, fun q hq => ?_⟩
          rw [al _ _ (by omega) (by omega) (by omega), Fd 3 _ (by omega)]; exact u4 q hq
        · dsimp only at hx ⊢
          rw [al _ _ (by omega) (by omega) (by omega), al _ _ (by omega) (by omega) (by omega), al _ _ (by omega) (by omega) (by omega), al _ _ (by omega) (by omega) (by omega), Fd 4 x (by omega), Fd 5 x (by omega), Fd 6 x (by omega), Fd 7 x (by omega)]
          exact qw x hx
        · dsimp only at hx ⊢
          rw [al _ _ (by omega) (by omega) (by omega), al _ _ (by omega) (by omega) (by omega), al _ _ (by omega) (by omega) (by omega), Fd 8 x (by omega), Fd 9 x (by omega), Fd 10 x (by omega)]
          exact qr x hx
        · dsimp only
          by_cases e : w = 0
          · subst e; exact x4.trans Gd.symm
          · rw [al _ _ (by omega) (by omega) (by omega), Fd 11 0 (by omega)]; exact qo.1
        · dsimp only
          by_cases e : w = 1
          · subst e; exact x4.trans Gd.symm
          · rw [al _ _ (by omega) (by omega) (by omega), Fd 12 0 (by omega)]; exact qo.2.1
        · dsimp only; rw [al _ _ (by decide) (by omega) (by omega), Fd 13 0 (by omega)]; exact qo.2.2.1
        · dsimp only; rw [al _ _ (by decide) (by omega) (by omega), Fd 13 0 (by omega)]; exact qo.2.2.2
        · dsimp only; rw [Fd 13 0 (by omega)]; exact (ql q hq).f hq (fun a x u => al _ _ (by omega) (by omega) (by omega)) (fun a x u v => al _ _ (by omega) (by omega) (by omega))
        · dsimp only
          by_cases e : w = 0
          · subst e; exact w53
          · rw [if_neg e, al _ _ (by omega) (by omega) (by omega)]; exact qf.1
        · dsimp only
          by_cases e : w = 1
          · subst e; exact w53
          · rw [if_neg e, al _ _ (by omega) (by omega) (by omega)]; exact qf.2
