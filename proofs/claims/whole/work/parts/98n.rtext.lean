theorem kd_after {B : Nat → Nat} {n m : Nat} (hB : ∀ i, i < n → B i < 256) (hm : kd B n m = 34) : ∀ k, kd B n (m + k) = 34 ∧ (tkn B n (ps B n (m + k))).2.2.2 = n := by
  have one : ∀ j, kd B n j = 34 → (tkn B n (ps B n j)).2.2.2 = n := fun j hj => by
    rcases (tkn_b hB (ps_le hB j)).2.2.2 with z | z
    · exact z.2.2
    · exact absurd hj z.1
  intro k
  induction k with
  | zero => exact ⟨hm, one m hm⟩
  | succ k ih =>
    have pe : ps B n (m + (k + 1)) = n := ih.2
    have tb := tkn_b hB (Nat.le_refl n)
    have k34 : kd B n (m + (k + 1)) = 34 := by
      show (tkn B n (ps B n (m + (k + 1)))).1 = 34
      rw [pe]
      rcases tb.2.2.2 with z | z
      · exact z.1
      · have := tb.1; have := tb.2.2.1; omega
    exact ⟨k34, one _ k34⟩
theorem lnA_le {B : Nat → Nat} {n m i j : Nat} {Q : aQ} (hB : ∀ i, i < n → B i < 256) (hm : kd B n m = 34) (e : (lnA B n Q i).1 = .inl j) : j ≤ m := by
  obtain ⟨i1, e1, e2, e3⟩ := tkA_inl e
  by_cases c : m ≤ i1
  · have := (kd_after hB hm (i1 - m)).1
    rw [show m + (i1 - m) = i1 by omega] at this
    have e3 : kd B n i1 = 21 := e3
    omega
  · omega
theorem r_text {K : zQ} {I : zI} {L : zJ} {P : zP} {A : aA} {x : Int32} (wP : WP A) (hR : RR A I L) (hK : ∀ (I' : zI) (L' : zJ), RR (s_text A x).1 I' L' → frY I I' → K [.inl (s_text A x).2] (I', L', P)) : mX12_text K [refR, .inl x] (I, L, P) := by
  show bX12_text_0 K [some (.inr (.inr (12,0))), some (.inl x), none] [] (I, L, P)
  unfold bX12_text_0
  obtain ⟨I1, e9, hR1, f1⟩ := r_thr P hR
  dsimp only [x_ald, x_int, x_pI, zg, Nat.reduceBEq, cond_true]
  rw [e9]
  have hO := hR1.2.2.2.2.2.2.2.2.1
  have hwd := hR1.2.2.2.2.2.2.2.2.2.2
  have w7 := wP.1
  have y1 : frY I I1 := fun a b c u1 u2 => f1 a b c (fun z => by unfold scrR upH at z; omega)
  dsimp only [x_int, x_lng, x_ild, x_lld, x_ald, x_ist, x_ast, x_lst, x_inc, x_ii, x_id, x_i, x_ll, x_ld, x_l, x_cmp, x_i2l, x_l2i, x_if, x_ic, x_dup, x_pop, x_dup2, x_gI, x_gL, x_gR, x_g1, x_g0, x_gP, x_pI, x_pZ, x_pL, x_pP, x_al, x_as, x_all, x_asl, x_alr, x_len, x_cpy, x_m2, x_m1, x_m2l, x_m1l, x_call, x_cv, x_ri, x_rz, x_rl, x_rv, zg, zset, zbef, zlong, zcat, cond_true, cond_false, List.take, List.drop, rv1, rv2, rv3, rv4, rv5, rv6, rv7, sm0, sm1, bl0, bl1, bl2, bl3, bl4, bl5, bl6, bl7, bl8, List.nil_append, List.cons_append, List.length_cons, List.length_nil, Nat.reduceBEq, Nat.reduceAdd, Nat.reduceSub, ta, tb, tn0, tn1, tn2, tn3, tn4, tn5, tn6, tn7, tn8, tn9, tn10, tn11, tn12, bX12_text_17]
  have bad : ¬ okTx A x → K [.inl (-2)] (I1, L, P) := fun z => by
    have hk := hK I1 L
    unfold s_text at hk
    rw [if_neg z] at hk
    exact hk hR1 y1
  rw [hO.1]
  refine ⟨fun c => bad (fun z => Int32.not_lt.mpr z.1 c), fun c => ⟨fun d => ?_, fun d => bad (fun z => d z.2)⟩⟩
  have good : okTx A x := ⟨Int32.not_lt.mp c, d⟩
  unfold s_text at hK
  rw [if_pos good] at hK
  obtain ⟨n, rfl, hnn⟩ := n_ofle (by omega) good.1 good.2
  rw [n_cl (n := n) (by omega)] at hK
  have hB : ∀ i, i < n → bt A i < 256 := fun i hi => (wP.b (by omega)).2
  obtain ⟨m, em⟩ := end_ex hB
  have hm : m ≤ n ∧ kd (bt A) n m = 34 := ⟨em.1, em.2.1⟩
  obtain ⟨J1, g1, x1, k1⟩ := zsI_ex I1 L P 12 0 6 (nI n)
  rw [g1]
  obtain ⟨J2, g2, x2, k2⟩ := zsI_ex J1 L P 12 0 1 (0 : Int32)
  rw [g2]
  obtain ⟨J3, g3, x3, k3⟩ := zsI_ex J2 L P 12 0 4 (0 : Int32)
  rw [g3]
  obtain ⟨J4, g4, x4, k4⟩ := zsI_ex J3 L P 12 0 5 (-1 : Int32)
  rw [g4]
  obtain ⟨J5, g5, x5, k5⟩ := zsI_ex J4 L P 12 0 7 (0 : Int32)
  rw [g5]
  have e5 : ony tK I1 J5 := fun a b q u => by
    rw [k5 a b q (fun v => u ⟨v.2.1, by unfold tK rrK; omega⟩), k4 a b q (fun v => u ⟨v.2.1, by unfold tK rrK; omega⟩), k3 a b q (fun v => u ⟨v.2.1, by unfold tK rrK; omega⟩), k2 a b q (fun v => u ⟨v.2.1, by unfold tK rrK; omega⟩), k1 a b q (fun v => u ⟨v.2.1, by unfold tK rrK; omega⟩)]
  refine p_plainR (fun I6 f6 hQ6 => ?_)
  dsimp only [x_int, x_lng, x_ild, x_lld, x_ald, x_ist, x_ast, x_lst, x_inc, x_ii, x_id, x_i, x_ll, x_ld, x_l, x_cmp, x_i2l, x_l2i, x_if, x_ic, x_dup, x_pop, x_dup2, x_gI, x_gL, x_gR, x_g1, x_g0, x_gP, x_pI, x_pZ, x_pL, x_pP, x_al, x_as, x_all, x_asl, x_alr, x_len, x_cpy, x_m2, x_m1, x_m2l, x_m1l, x_call, x_cv, x_ri, x_rz, x_rl, x_rv, zg, zset, zbef, zlong, zcat, cond_true, cond_false, List.take, List.drop, rv1, rv2, rv3, rv4, rv5, rv6, rv7, sm0, sm1, bl0, bl1, bl2, bl3, bl4, bl5, bl6, bl7, bl8, List.nil_append, List.cons_append, List.length_cons, List.length_nil, Nat.reduceBEq, Nat.reduceAdd, Nat.reduceSub, ta, tb, tn0, tn1, tn2, tn3, tn4, tn5, tn6, tn7, tn8, tn9, tn10, tn11, tn12]
  have e6 : ony tK J5 I6 := f6.mono (fun a q u => by unfold tK rrK; omega)
  have hp6 : RTp (bt A) n I6 := by
    refine ⟨?_, by omega, fun i hi => ⟨?_, hB i hi⟩, fun i hi => ?_⟩
    · rw [f6.lo (by omega), k5 _ _ _ (by decide), k4 _ _ _ (by decide), k3 _ _ _ (by decide), k2 _ _ _ (by decide)]; exact x1
    · rw [f6.lo (by omega), e5.lo (by unfold tK rrK; omega), hO.2 i (by omega)]; exact (wP.b (by omega)).1
    · rw [f6.lo (by omega), e5.lo (by unfold tK rrK; omega)]; exact hwd i hi
  refine p_token (p := 0) hp6 (Nat.zero_le _) (by rw [f6.lo (by omega)]; exact x5) (fun I7 f7 t7 => ?_)
  dsimp only [x_int, x_lng, x_ild, x_lld, x_ald, x_ist, x_ast, x_lst, x_inc, x_ii, x_id, x_i, x_ll, x_ld, x_l, x_cmp, x_i2l, x_l2i, x_if, x_ic, x_dup, x_pop, x_dup2, x_gI, x_gL, x_gR, x_g1, x_g0, x_gP, x_pI, x_pZ, x_pL, x_pP, x_al, x_as, x_all, x_asl, x_alr, x_len, x_cpy, x_m2, x_m1, x_m2l, x_m1l, x_call, x_cv, x_ri, x_rz, x_rl, x_rv, zg, zset, zbef, zlong, zcat, cond_true, cond_false, List.take, List.drop, rv1, rv2, rv3, rv4, rv5, rv6, rv7, sm0, sm1, bl0, bl1, bl2, bl3, bl4, bl5, bl6, bl7, bl8, List.nil_append, List.cons_append, List.length_cons, List.length_nil, Nat.reduceBEq, Nat.reduceAdd, Nat.reduceSub, ta, tb, tn0, tn1, tn2, tn3, tn4, tn5, tn6, tn7, tn8, tn9, tn10, tn11, tn12]
  have ft7 : I7 12 0 4 = 0 := by rw [f7 _ _ _ (by decide), f6.lo (by omega), k5 _ _ _ (by decide), k4 _ _ _ (by decide)]; exact x3
  have fp7 : I7 12 0 5 = -1 := by rw [f7 _ _ _ (by decide), f6.lo (by omega), k5 _ _ _ (by decide)]; exact x4
  have ts7 : I7 12 0 1 = 0 := by rw [f7 _ _ _ (by decide), f6.lo (by omega), k5 _ _ _ (by decide), k4 _ _ _ (by decide), k3 _ _ _ (by decide)]; exact x2
  have e7 : ony tK I1 I7 := (e5.tr e6).tr (fun a b q u => f7 a b q (fun v => u ⟨v.2.1, by unfold tK rrK; omega⟩))
  have hp7 : RTp (bt A) n I7 := hp6.k f7
  have hQ7 : RQ I7 (T00, false, false) := hQ6.t (fun a c u => f7 _ _ _ (by omega))
  have tk7 : tkR (bt A) n 0 I7 := ⟨t7, ft7, fp7⟩
  have tkY : ∀ {X Y : zI}, ony tK X Y → frY X Y := fun g a b q u1 u2 => g a b q (fun v => by have := v.2; unfold tK rrK at this; omega)
  refine zmea (fun k Z M => ∃ (I' : zI) (i q : Nat) (Q : aQ) (f : Nat), Z = [some refR, some (.inl (nI n)), some (.inl (nI q))] ∧ M = (I', L, P) ∧ k = n + 2 - i ∧ i ≤ m ∧ frG I7 I' ∧ tkR (bt A) n i I' ∧ RQ I' Q ∧ QW Q.1 ∧ n + 1 - i ≤ f ∧ rdA (bt A) n = lrun (bt A) n f i Q q) ?_ (n + 2) ⟨I7, 0, 0, _, n + 1, rfl, rfl, rfl, Nat.zero_le _, ony.rf, tk7, hQ7, QW_0, by omega, rfl⟩
  rintro k Z M ⟨I', i, q, Q, f, rfl, rfl, hk, hi, hG, ht, hQ, hW, hf, hr⟩ self hself
  have en := RTk_end ht.k
  obtain ⟨f0, ef⟩ : ∃ f0, f = f0 + 1 := ⟨f - 1, by omega⟩
  rw [ef, lrun_s] at hr
  have ts' : I' 12 0 1 = 0 := by rw [hG.lo (by unfold rrK; omega)]; exact ts7
  have eT : ony tK I1 I' := e7.tr (hG.mono (fun a q u => Or.inl u))
  dsimp only [x_int, x_lng, x_ild, x_lld, x_ald, x_ist, x_ast, x_lst, x_inc, x_ii, x_id, x_i, x_ll, x_ld, x_l, x_cmp, x_i2l, x_l2i, x_if, x_ic, x_dup, x_pop, x_dup2, x_gI, x_gL, x_gR, x_g1, x_g0, x_gP, x_pI, x_pZ, x_pL, x_pP, x_al, x_as, x_all, x_asl, x_alr, x_len, x_cpy, x_m2, x_m1, x_m2l, x_m1l, x_call, x_cv, x_ri, x_rz, x_rl, x_rv, zg, zset, zbef, zlong, zcat, cond_true, cond_false, List.take, List.drop, rv1, rv2, rv3, rv4, rv5, rv6, rv7, sm0, sm1, bl0, bl1, bl2, bl3, bl4, bl5, bl6, bl7, bl8, List.nil_append, List.cons_append, List.length_cons, List.length_nil, Nat.reduceBEq, Nat.reduceAdd, Nat.reduceSub, ta, tb, tn0, tn1, tn2, tn3, tn4, tn5, tn6, tn7, tn8, tn9, tn10, tn11, tn12]
  refine ⟨fun z => ?_, fun z => ?_⟩
  · rw [if_pos (en.mp z)] at hr
    rw [hr] at hK
    refine p_keepCopies (fun w hw => ?_) (fun J I8 j0 j1 j2 j3 j4 kp => p_beginR (fun I9 Ia La f9 r9 fa pa a1 a2 a3 a4 hL => ?_))
    · rcases (hQ.2.2.2.2.2.2.1 w hw).told with u | u
      · rw [u.2]; exact Or.inl rfl
      · rw [u.2]; exact Or.inr rfl
    dsimp only [x_int, x_lng, x_ild, x_lld, x_ald, x_ist, x_ast, x_lst, x_inc, x_ii, x_id, x_i, x_ll, x_ld, x_l, x_cmp, x_i2l, x_l2i, x_if, x_ic, x_dup, x_pop, x_dup2, x_gI, x_gL, x_gR, x_g1, x_g0, x_gP, x_pI, x_pZ, x_pL, x_pP, x_al, x_as, x_all, x_asl, x_alr, x_len, x_cpy, x_m2, x_m1, x_m2l, x_m1l, x_call, x_cv, x_ri, x_rz, x_rl, x_rv, zg, zset, zbef, zlong, zcat, cond_true, cond_false, List.take, List.drop, rv1, rv2, rv3, rv4, rv5, rv6, rv7, sm0, sm1, bl0, bl1, bl2, bl3, bl4, bl5, bl6, bl7, bl8, List.nil_append, List.cons_append, List.length_cons, List.length_nil, Nat.reduceBEq, Nat.reduceAdd, Nat.reduceSub, ta, tb, tn0, tn1, tn2, tn3, tn4, tn5, tn6, tn7, tn8, tn9, tn10, tn11, tn12]
    refine hK Ia La (RR.new hQ hW j0 j1 j2 j3 j4 kp f9 r9 fa pa a1 a2 a3 a4 hL ts' ht.2.1 ht.2.2 (fun i hi => ?_)) ((y1.tr (tkY eT)).tr (fun a b c u1 u2 => ?_))
    · rw [eT.lo (by unfold tK rrK; omega)]; exact hwd i hi
    · rw [fa _ _ _ (by omega), f9 _ _ _ (fun v => by have := v.2; unfold afK at this; omega), kp.1 _ _ _ (by omega), j0 _ _ _ (by omega)]
  · rw [if_neg (fun u => z (en.mpr u))] at hr
    refine p_lineRead hm hi (hp7.g hG) hQ hW.2.2.2.2.2.2 ht (fun I8 f8 s8 r8 => ?_)
    dsimp only [x_int, x_lng, x_ild, x_lld, x_ald, x_ist, x_ast, x_lst, x_inc, x_ii, x_id, x_i, x_ll, x_ld, x_l, x_cmp, x_i2l, x_l2i, x_if, x_ic, x_dup, x_pop, x_dup2, x_gI, x_gL, x_gR, x_g1, x_g0, x_gP, x_pI, x_pZ, x_pL, x_pP, x_al, x_as, x_all, x_asl, x_alr, x_len, x_cpy, x_m2, x_m1, x_m2l, x_m1l, x_call, x_cv, x_ri, x_rz, x_rl, x_rv, zg, zset, zbef, zlong, zcat, cond_true, cond_false, List.take, List.drop, rv1, rv2, rv3, rv4, rv5, rv6, rv7, sm0, sm1, bl0, bl1, bl2, bl3, bl4, bl5, bl6, bl7, bl8, List.nil_append, List.cons_append, List.length_cons, List.length_nil, Nat.reduceBEq, Nat.reduceAdd, Nat.reduceSub, ta, tb, tn0, tn1, tn2, tn3, tn4, tn5, tn6, tn7, tn8, tn9, tn10, tn11, tn12]
    have im := fun j => lnA_le (B := bt A) (n := n) (m := m) (i := i) (j := j) (Q := Q) hB hm.2
    have lq := fun j => lnA_QW (B := bt A) (n := n) (i := i) (j := j) (Q := Q) hW
    cases e : lnA (bt A) n Q i with
    | mk st Q1 =>
      rw [e] at s8 r8 hr lq im
      cases st with
      | inr xx =>
        obtain ⟨e1, e2⟩ := xx
        dsimp only at hr
        rw [hr] at hK
        refine ⟨fun _ => ?_, fun u => absurd rfl u⟩
        exact hK I8 L (RR.fal hR1 (eT.tr (f8.mono (fun a q u => Or.inl u))) (by rw [f8.lo (by unfold rrK; omega)]; exact ts') s8.1 s8.2) ((y1.tr (tkY eT)).tr (tkY (f8.mono (fun a q u => Or.inl u))))
      | inl j =>
        obtain ⟨r3, r4⟩ := lq j rfl
        have jm := im j rfl
        dsimp only at r3 r4 hr
        rw [n_succ q]
        refine ⟨fun u => absurd u (show ¬ (1 : Int32) = 0 by decide), fun _ => hself (n + 2 - j) _ _ (by omega) ⟨I8, j, q + 1, Q1, f0, rfl, rfl, rfl, jm, hG.tr f8, s8, r8 j rfl, r3, by omega, hr⟩⟩
