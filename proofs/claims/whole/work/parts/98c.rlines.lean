theorem ixe {x k : Int32} {c : Nat} (h : x = nI c) {o : Nat} (hk : k = nI o) : k + x = nI (o + c) := by rw [h, hk, n_add]
theorem p_woodLine {K : zQ} {I : zI} {L : zJ} {P : zP} {B : Nat → Nat} {n i : Nat} {Q : aQ} (hp : RTp B n I) (hQ : RQ I Q) (h : tkR B n i I) (hk : kd B n i = 1) (hK : ∀ I' : zI, frG I I' → stR B n (bodA B n Q i).1 I' → (∀ j, (bodA B n Q i).1 = .inl j → RQ I' (bodA B n Q i).2) → K [.inl (aB (bodA B n Q i).1)] (I', L, P)) : mX12_woodLine K [refR] (I, L, P) := by
  obtain ⟨⟨q1, q2, q3⟩, ⟨b6, b4, b10⟩, qh, qw, qr, qo, ql, qf⟩ := hQ
  have bd : bodA B n Q i = (if Q.1.1 1 < 4 then tnA B n (Q.1.2.1 0) (Q.1.1 0) (nuA B n 0 9 (nuA B n 0 99 (nnA B n (Q.1.2.1 4) (Q.1.1 1) (.inl (i + 1))))) else .inr (2, i), (addW Q.1 (woG B n Q.1 i), Q.2)) := by
    unfold bodA
    rw [if_neg (by omega), if_pos hk]
  rw [bd] at hK
  show bX12_woodLine_0 K [some (.inr (.inr (12,0)))] [] (I, L, P)
  unfold bX12_woodLine_0
  dsimp only [x_int, x_lng, x_ild, x_lld, x_ald, x_ist, x_ast, x_lst, x_inc, x_ii, x_id, x_i, x_ll, x_ld, x_l, x_cmp, x_i2l, x_l2i, x_if, x_ic, x_dup, x_pop, x_dup2, x_gI, x_gL, x_gR, x_g1, x_g0, x_gP, x_pI, x_pZ, x_pL, x_pP, x_al, x_as, x_all, x_asl, x_alr, x_len, x_cpy, x_m2, x_m1, x_m2l, x_m1l, x_call, x_cv, x_ri, x_rz, x_rl, x_rv, zg, zset, zbef, zlong, zcat, cond_true, cond_false, List.take, List.drop, rv1, rv2, rv3, rv4, rv5, rv6, rv7, sm0, sm1, bl0, bl1, bl2, bl3, bl4, bl5, bl6, bl7, bl8, List.nil_append, List.cons_append, List.length_cons, List.length_nil, Nat.reduceBEq, Nat.reduceAdd, Nat.reduceSub, ta, tb, tn0, tn1, tn2, tn3, tn4, tn5, tn6, tn7, tn8, tn9, tn10, tn11, tn12]
  rw [q2]
  refine ⟨fun z => p_wrong (e := 2) h (fun I1 f1 s1 => ?_), fun z => p_next hp h (fun I1 f1 t1 => ?_)⟩
  · have z : nI (Q.1.1 1) = nI 4 := z
    rw [n_eq (by omega) (by omega)] at z
    dsimp only at hK
    rw [if_neg (by omega)] at hK
    exact ⟨Or.inl rfl, hK I1 (wrong_G f1) s1 (fun j ej => by cases ej)⟩
  have z : ¬ nI (Q.1.1 1) = nI 4 := z
  rw [n_eq (by omega) (by omega)] at z
  dsimp only at hK
  rw [if_pos (by omega)] at hK
  generalize hc : Q.1.1 1 = c at *
  let F : Nat → Nat → Prop := fun a q => (a = 12 ∧ (4 ≤ q ∧ q ≤ 11 ∧ ¬ q = 6)) ∨ ((59 ≤ a ∧ a ≤ 62) ∧ q = 4 + c)
  have FG : ∀ {J : zI}, ony F I J → frG I J := fun g => g.mono (fun a q u => by unfold rrK; have u : (a = 12 ∧ (4 ≤ q ∧ q ≤ 11 ∧ ¬ q = 6)) ∨ ((59 ≤ a ∧ a ≤ 62) ∧ q = 4 + c) := u; omega)
  have ke : ∀ {J : zI}, ony F I J → ∀ a q, ¬ (a = 12 ∧ (4 ≤ q ∧ q ≤ 11 ∧ ¬ q = 6)) → ¬ ((59 ≤ a ∧ a ≤ 62) ∧ q = 4 + c) → J a 0 q = I a 0 q := fun g a q u1 u2 => g.lo (fun u => u.elim u1 u2)
  have F1 : ony F I I1 := fun a b q u => f1 a b q (fun v => u ⟨v.2.1, Or.inl ⟨v.1, by omega⟩⟩)
  have r17 : ∀ {J : zI}, ony F I J → J 12 0 17 = nI c := fun g => (ke g _ _ (by decide) (by omega)).trans q2
  have r16 : ∀ {J : zI}, ony F I J → J 12 0 16 = nI (Q.1.1 0) := fun g => (ke g _ _ (by decide) (by omega)).trans q1
  have exitR : ∀ (J : zI) (x : Nat × Nat), ony F I J → stR B n (.inr x) J → tnA B n (Q.1.2.1 0) (Q.1.1 0) (nuA B n 0 9 (nuA B n 0 99 (nnA B n (Q.1.2.1 4) c (.inl (i + 1))))) = .inr x → K [.inl 0] (J, L, P) := fun J x g1 g2 g3 => by
    rw [g3] at hK
    exact hK J (FG g1) g2 (fun j ej => by cases ej)
  dsimp only [x_int, x_lng, x_ild, x_lld, x_ald, x_ist, x_ast, x_lst, x_inc, x_ii, x_id, x_i, x_ll, x_ld, x_l, x_cmp, x_i2l, x_l2i, x_if, x_ic, x_dup, x_pop, x_dup2, x_gI, x_gL, x_gR, x_g1, x_g0, x_gP, x_pI, x_pZ, x_pL, x_pP, x_al, x_as, x_all, x_asl, x_alr, x_len, x_cpy, x_m2, x_m1, x_m2l, x_m1l, x_call, x_cv, x_ri, x_rz, x_rl, x_rv, zg, zset, zbef, zlong, zcat, cond_true, cond_false, List.take, List.drop, rv1, rv2, rv3, rv4, rv5, rv6, rv7, sm0, sm1, bl0, bl1, bl2, bl3, bl4, bl5, bl6, bl7, bl8, List.nil_append, List.cons_append, List.length_cons, List.length_nil, Nat.reduceBEq, Nat.reduceAdd, Nat.reduceSub, ta, tb, tn0, tn1, tn2, tn3, tn4, tn5, tn6, tn7, tn8, tn9, tn10, tn11, tn12]
  rw [r17 F1]
  refine p_newName (o := 4) (f := Q.1.2.1 4) rfl (by decide) (by show 4 + c < 8; omega) (by decide) (fun y hy => ?_) (hp.g (FG F1)) t1 (fun I2 f2 s2 v2 => ?_)
  · rw [f1 _ _ _ (by omega)]; exact (qw y hy).1
  have F2 : ony F I I2 := F1.tr (f2.mono (fun a q u => u.elim Or.inl (fun v => Or.inr ⟨by omega, v.2⟩)))
  dsimp only [x_int, x_lng, x_ild, x_lld, x_ald, x_ist, x_ast, x_lst, x_inc, x_ii, x_id, x_i, x_ll, x_ld, x_l, x_cmp, x_i2l, x_l2i, x_if, x_ic, x_dup, x_pop, x_dup2, x_gI, x_gL, x_gR, x_g1, x_g0, x_gP, x_pI, x_pZ, x_pL, x_pP, x_al, x_as, x_all, x_asl, x_alr, x_len, x_cpy, x_m2, x_m1, x_m2l, x_m1l, x_call, x_cv, x_ri, x_rz, x_rl, x_rv, zg, zset, zbef, zlong, zcat, cond_true, cond_false, List.take, List.drop, rv1, rv2, rv3, rv4, rv5, rv6, rv7, sm0, sm1, bl0, bl1, bl2, bl3, bl4, bl5, bl6, bl7, bl8, List.nil_append, List.cons_append, List.length_cons, List.length_nil, Nat.reduceBEq, Nat.reduceAdd, Nat.reduceSub, ta, tb, tn0, tn1, tn2, tn3, tn4, tn5, tn6, tn7, tn8, tn9, tn10, tn11, tn12]
  cases e2 : nnA B n (Q.1.2.1 4) c (.inl (i + 1)) with
  | inr x =>
    rw [e2] at s2
    exact ⟨fun _ => ⟨Or.inl rfl, exitR I2 x F2 s2 (by rw [e2]; rfl)⟩, fun y => absurd rfl y⟩
  | inl j2 =>
    obtain ⟨_, a1, a2⟩ := nnA_inl e2
    cases a1
    subst a2
    have v2 := v2 _ e2
    rw [e2] at s2
    rw [e2] at exitR hK
    have t2 : tkR B n (i + 1 + 1) I2 := s2
    refine ⟨fun y => absurd y (show ¬ (1 : Int32) = 0 by decide), fun _ => ?_⟩
    refine p_number (lo := 0) (hi := 99) (by omega) (hp.g (FG F2)) t2 (fun I3 f3 s3 v3 => ?_)
    have F3 : ony F I I3 := F2.tr (f3.mono (fun a q u => Or.inl u))
    dsimp only [x_int, x_lng, x_ild, x_lld, x_ald, x_ist, x_ast, x_lst, x_inc, x_ii, x_id, x_i, x_ll, x_ld, x_l, x_cmp, x_i2l, x_l2i, x_if, x_ic, x_dup, x_pop, x_dup2, x_gI, x_gL, x_gR, x_g1, x_g0, x_gP, x_pI, x_pZ, x_pL, x_pP, x_al, x_as, x_all, x_asl, x_alr, x_len, x_cpy, x_m2, x_m1, x_m2l, x_m1l, x_call, x_cv, x_ri, x_rz, x_rl, x_rv, zg, zset, zbef, zlong, zcat, cond_true, cond_false, List.take, List.drop, rv1, rv2, rv3, rv4, rv5, rv6, rv7, sm0, sm1, bl0, bl1, bl2, bl3, bl4, bl5, bl6, bl7, bl8, List.nil_append, List.cons_append, List.length_cons, List.length_nil, Nat.reduceBEq, Nat.reduceAdd, Nat.reduceSub, ta, tb, tn0, tn1, tn2, tn3, tn4, tn5, tn6, tn7, tn8, tn9, tn10, tn11, tn12]
    cases e3 : nuA B n 0 99 (.inl (i + 1 + 1)) with
    | inr x =>
      rw [e3] at s3
      exact ⟨fun _ => ⟨Or.inl rfl, exitR I3 x F3 s3 (by rw [e3]; rfl)⟩, fun y => absurd rfl y⟩
    | inl j3 =>
      obtain ⟨_, a1, a2, -⟩ := nuA_inl e3
      cases a1
      subst a2
      have v3 := v3 _ e3
      rw [e3] at s3
      rw [e3] at exitR hK
      have t3 : tkR B n (i + 1 + 1 + 1) I3 := s3
      refine ⟨fun y => absurd y (show ¬ (1 : Int32) = 0 by decide), fun _ => ?_⟩
      dsimp only [zk_60, zl_60, cond_true]
      rw [r17 F3, v3, show (4 : Int32) + nI c = nI (4 + c) from n_add 4 c, n_cl (n := 4 + c) (by omega)]
      refine ⟨n_zin (by show 4 + c < 8; omega) (by decide), ?_⟩
      obtain ⟨J3, g3, x3, k3⟩ := zsI_ex I3 L P 60 0 (4 + c) (vl B n (i + 1 + 1))
      rw [g3]
      have G3 : ony F I J3 := fun a b q u => (k3 a b q (fun v => u ⟨v.2.1, Or.inr ⟨by omega, v.2.2⟩⟩)).trans (F3 a b q u)
      refine p_number (lo := 0) (hi := 9) (by omega) (hp.g (FG G3)) (t3.q (fun q u1 u2 => k3 _ _ _ (by omega))) (fun I4 f4 s4 v4 => ?_)
      have F4 : ony F I I4 := G3.tr (f4.mono (fun a q u => Or.inl u))
      dsimp only [x_int, x_lng, x_ild, x_lld, x_ald, x_ist, x_ast, x_lst, x_inc, x_ii, x_id, x_i, x_ll, x_ld, x_l, x_cmp, x_i2l, x_l2i, x_if, x_ic, x_dup, x_pop, x_dup2, x_gI, x_gL, x_gR, x_g1, x_g0, x_gP, x_pI, x_pZ, x_pL, x_pP, x_al, x_as, x_all, x_asl, x_alr, x_len, x_cpy, x_m2, x_m1, x_m2l, x_m1l, x_call, x_cv, x_ri, x_rz, x_rl, x_rv, zg, zset, zbef, zlong, zcat, cond_true, cond_false, List.take, List.drop, rv1, rv2, rv3, rv4, rv5, rv6, rv7, sm0, sm1, bl0, bl1, bl2, bl3, bl4, bl5, bl6, bl7, bl8, List.nil_append, List.cons_append, List.length_cons, List.length_nil, Nat.reduceBEq, Nat.reduceAdd, Nat.reduceSub, ta, tb, tn0, tn1, tn2, tn3, tn4, tn5, tn6, tn7, tn8, tn9, tn10, tn11, tn12]
      cases e4 : nuA B n 0 9 (.inl (i + 1 + 1 + 1)) with
      | inr x =>
        rw [e4] at s4
        exact ⟨fun _ => ⟨Or.inl rfl, exitR I4 x F4 s4 (by rw [e4]; rfl)⟩, fun y => absurd rfl y⟩
      | inl j4 =>
        obtain ⟨_, a1, a2, -⟩ := nuA_inl e4
        cases a1
        subst a2
        have v4 := v4 _ e4
        rw [e4] at s4
        rw [e4] at exitR hK
        have t4 : tkR B n (i + 4) I4 := s4
        refine ⟨fun y => absurd y (show ¬ (1 : Int32) = 0 by decide), fun _ => ?_⟩
        dsimp only [zk_61, zl_61, cond_true]
        rw [r17 F4, v4, show (4 : Int32) + nI c = nI (4 + c) from n_add 4 c, n_cl (n := 4 + c) (by omega)]
        refine ⟨n_zin (by show 4 + c < 8; omega) (by decide), ?_⟩
        obtain ⟨J4, g4, x4, k4⟩ := zsI_ex I4 L P 61 0 (4 + c) (vl B n (i + 1 + 1 + 1))
        rw [g4]
        have G4 : ony F I J4 := fun a b q u => (k4 a b q (fun v => u ⟨v.2.1, Or.inr ⟨by omega, v.2.2⟩⟩)).trans (F4 a b q u)
        dsimp only [x_int, x_lng, x_ild, x_lld, x_ald, x_ist, x_ast, x_lst, x_inc, x_ii, x_id, x_i, x_ll, x_ld, x_l, x_cmp, x_i2l, x_l2i, x_if, x_ic, x_dup, x_pop, x_dup2, x_gI, x_gL, x_gR, x_g1, x_g0, x_gP, x_pI, x_pZ, x_pL, x_pP, x_al, x_as, x_all, x_asl, x_alr, x_len, x_cpy, x_m2, x_m1, x_m2l, x_m1l, x_call, x_cv, x_ri, x_rz, x_rl, x_rv, zg, zset, zbef, zlong, zcat, cond_true, cond_false, List.take, List.drop, rv1, rv2, rv3, rv4, rv5, rv6, rv7, sm0, sm1, bl0, bl1, bl2, bl3, bl4, bl5, bl6, bl7, bl8, List.nil_append, List.cons_append, List.length_cons, List.length_nil, Nat.reduceBEq, Nat.reduceAdd, Nat.reduceSub, ta, tb, tn0, tn1, tn2, tn3, tn4, tn5, tn6, tn7, tn8, tn9, tn10, tn11, tn12]
        rw [r16 G4]
        refine p_thereIn (o := 6) (f := Q.1.2.1 0) rfl (by show 6 + Q.1.1 0 ≤ 12; omega) (by decide) (fun y hy => ?_) (hp.g (FG G4)) (t4.q (fun q u1 u2 => k4 _ _ _ (by omega))) (fun I5 f5 s5 v5 => ?_)
        · rw [ke G4 _ _ (by omega) (by omega)]; exact (qh y hy).1
        have F5 : ony F I I5 := G4.tr (f5.mono (fun a q u => Or.inl u))
        dsimp only [x_int, x_lng, x_ild, x_lld, x_ald, x_ist, x_ast, x_lst, x_inc, x_ii, x_id, x_i, x_ll, x_ld, x_l, x_cmp, x_i2l, x_l2i, x_if, x_ic, x_dup, x_pop, x_dup2, x_gI, x_gL, x_gR, x_g1, x_g0, x_gP, x_pI, x_pZ, x_pL, x_pP, x_al, x_as, x_all, x_asl, x_alr, x_len, x_cpy, x_m2, x_m1, x_m2l, x_m1l, x_call, x_cv, x_ri, x_rz, x_rl, x_rv, zg, zset, zbef, zlong, zcat, cond_true, cond_false, List.take, List.drop, rv1, rv2, rv3, rv4, rv5, rv6, rv7, sm0, sm1, bl0, bl1, bl2, bl3, bl4, bl5, bl6, bl7, bl8, List.nil_append, List.cons_append, List.length_cons, List.length_nil, Nat.reduceBEq, Nat.reduceAdd, Nat.reduceSub, ta, tb, tn0, tn1, tn2, tn3, tn4, tn5, tn6, tn7, tn8, tn9, tn10, tn11, tn12]
        cases e5 : tnA B n (Q.1.2.1 0) (Q.1.1 0) (.inl (i + 4)) with
        | inr x =>
          rw [e5] at s5
          exact ⟨fun _ => ⟨Or.inl rfl, exitR I5 x F5 s5 e5⟩, fun y => absurd rfl y⟩
        | inl j5 =>
          have v5 := v5 _ e5
          rw [e5] at s5
          have hk5 := hK
          rw [show i + 1 + 1 + 1 + 1 = i + 4 from rfl, e5] at hk5
          refine ⟨fun y => absurd y (show ¬ (1 : Int32) = 0 by decide), fun _ => ?_⟩
          dsimp only [zk_62, zl_62, cond_true]
          rw [r17 F5, v5, show (4 : Int32) + nI c = nI (4 + c) from n_add 4 c, n_cl (n := 4 + c) (by omega)]
          refine ⟨n_zin (by show 4 + c < 8; omega) (by decide), ?_⟩
          obtain ⟨J5, g5, x5, k5⟩ := zsI_ex I5 L P 62 0 (4 + c) (wbR (fnd (Q.1.2.1 0) (vl B n (i + 4)) (Q.1.1 0)))
          rw [g5]
          have G5 : ony F I J5 := fun a b q u => (k5 a b q (fun v => u ⟨v.2.1, Or.inr ⟨by omega, v.2.2⟩⟩)).trans (F5 a b q u)
          dsimp only [x_int, x_lng, x_ild, x_lld, x_ald, x_ist, x_ast, x_lst, x_inc, x_ii, x_id, x_i, x_ll, x_ld, x_l, x_cmp, x_i2l, x_l2i, x_if, x_ic, x_dup, x_pop, x_dup2, x_gI, x_gL, x_gR, x_g1, x_g0, x_gP, x_pI, x_pZ, x_pL, x_pP, x_al, x_as, x_all, x_asl, x_alr, x_len, x_cpy, x_m2, x_m1, x_m2l, x_m1l, x_call, x_cv, x_ri, x_rz, x_rl, x_rv, zg, zset, zbef, zlong, zcat, cond_true, cond_false, List.take, List.drop, rv1, rv2, rv3, rv4, rv5, rv6, rv7, sm0, sm1, bl0, bl1, bl2, bl3, bl4, bl5, bl6, bl7, bl8, List.nil_append, List.cons_append, List.length_cons, List.length_nil, Nat.reduceBEq, Nat.reduceAdd, Nat.reduceSub, ta, tb, tn0, tn1, tn2, tn3, tn4, tn5, tn6, tn7, tn8, tn9, tn10, tn11, tn12]
          rw [r17 G5, n_succ]
          obtain ⟨J7, g7, x7, k7⟩ := zsI_ex J5 L P 12 0 17 (nI (c + 1))
          rw [g7]
          refine ⟨Or.inr rfl, hk5 J7 (fun a b q u => (k7 a b q (fun v => u ⟨v.2.1, by unfold rrK; omega⟩)).trans (FG G5 a b q u)) (tkR.q s5 (fun q u1 u2 => (k7 _ _ _ (by omega)).trans (k5 _ _ _ (by omega)))) (fun _ _ => ?_)⟩
          have al : ∀ a q, ¬ (a = 12 ∧ ((4 ≤ q ∧ q ≤ 11) ∨ q = 17)) → ¬ ((59 ≤ a ∧ a ≤ 62) ∧ q = 4 + c) → J7 a 0 q = I a 0 q := fun a q u1 u2 => by
            rw [k7 a 0 q (by omega)]
            exact ke G5 a q (by omega) u2
          have T1 : (addW Q.1 (woG B n Q.1 i)).1 1 = c + 1 := by rw [← hc]; rfl
          have T0 : ∀ q, ¬ q = 1 → (addW Q.1 (woG B n Q.1 i)).1 q = Q.1.1 q := fun q w => if_neg w
          have Fd : ∀ a x, ¬ ((4 ≤ a ∧ a ≤ 7) ∧ x = c) → (addW Q.1 (woG B n Q.1 i)).2.1 a x = Q.1.2.1 a x := fun a x w1 => by
            unfold addW
            dsimp only
            rw [hc, if_neg w1]
          have G : ∀ a, 4 ≤ a → a ≤ 7 → (addW Q.1 (woG B n Q.1 i)).2.1 a c = woG B n Q.1 i (a - 4) := fun a w w2 => by
            unfold addW
            dsimp only
            rw [hc, if_pos ⟨⟨w, w2⟩, rfl⟩]
          refine ⟨⟨?_, ?_, ?_⟩, ⟨?_, ?_, ?_⟩, fun x hx => ?_, fun x hx => ?_, fun x hx => ?_, ⟨?_, ?_, ?_, ?_⟩, fun q hq => ?_, ?_, ?_⟩
          · dsimp only; rw [al _ _ (by decide) (by omega), T0 0 (by decide)]; exact q1
          · dsimp only; rw [x7, T1]
          · dsimp only; rw [al _ _ (by decide) (by omega), T0 2 (by decide)]; exact q3
          · dsimp only; rw [T0 0 (by decide)]; exact b6
          · dsimp only; rw [T1]; omega
          · dsimp only; rw [T0 2 (by decide)]; exact b10
          · dsimp only at hx ⊢
            rw [T0 0 (by decide)] at hx
            obtain ⟨u1, u2, u3, u4⟩ := qh x hx
            rw [al _ _ (by omega) (by omega), al _ _ (by omega) (by omega), al _ _ (by omega) (by omega), Fd 0 x (by omega), Fd 1 x (by omega), Fd 2 x (by omega)]
            refine ⟨u1, u2, u3, fun q hq => ?_⟩
            rw [al _ _ (by omega) (by omega), Fd 3 _ (by omega)]; exact u4 q hq
          · dsimp only at hx ⊢
            rw [T1] at hx
            by_cases e : x = c
            · subst e
              rw [G 4 (by omega) (by omega), G 5 (by omega) (by omega), G 6 (by omega) (by omega), G 7 (by omega) (by omega)]
              refine ⟨?_, ?_, ?_, ?_⟩
              · rw [k7 _ _ _ (by omega), k5 _ _ _ (by omega), f5 _ _ _ (by omega), k4 _ _ _ (by omega), f4 _ _ _ (by omega), k3 _ _ _ (by omega), f3 _ _ _ (by omega)]; exact v2
              · rw [k7 _ _ _ (by omega), k5 _ _ _ (by omega), f5 _ _ _ (by omega), k4 _ _ _ (by omega), f4 _ _ _ (by omega)]; exact x3
              · rw [k7 _ _ _ (by omega), k5 _ _ _ (by omega), f5 _ _ _ (by omega)]; exact x4
              · rw [k7 _ _ _ (by omega)]; exact x5
            · rw [al _ _ (by omega) (by omega), al _ _ (by omega) (by omega), al _ _ (by omega) (by omega), al _ _ (by omega) (by omega), Fd 4 x (by omega), Fd 5 x (by omega), Fd 6 x (by omega), Fd 7 x (by omega)]
              exact qw x (by omega)
          · dsimp only at hx ⊢
            rw [T0 2 (by decide)] at hx
            rw [al _ _ (by omega) (by omega), al _ _ (by omega) (by omega), al _ _ (by omega) (by omega), Fd 8 x (by omega), Fd 9 x (by omega), Fd 10 x (by omega)]
            exact qr x hx
          · dsimp only; rw [al _ _ (by omega) (by omega), Fd 11 0 (by omega)]; exact qo.1
          · dsimp only; rw [al _ _ (by omega) (by omega), Fd 12 0 (by omega)]; exact qo.2.1
          · dsimp only; rw [al _ _ (by decide) (by omega), Fd 13 0 (by omega)]; exact qo.2.2.1
          · dsimp only; rw [al _ _ (by decide) (by omega), Fd 13 0 (by omega)]; exact qo.2.2.2
          · dsimp only; rw [Fd 13 0 (by omega)]; exact (ql q hq).f hq (fun a x u => al _ _ (by omega) (by omega)) (fun a x u v => al _ _ (by omega) (by omega))
          · dsimp only; rw [al _ _ (by omega) (by omega)]; exact qf.1
          · dsimp only; rw [al _ _ (by omega) (by omega)]; exact qf.2
