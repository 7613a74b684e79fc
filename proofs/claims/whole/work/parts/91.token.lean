def plB (c : Nat) : Bool := c == 59 || (c == 40 || (c == 41 || (c == 43 || (c == 45 || (c == 42 || c == 47)))))
theorem kos_rel0 : ∀ c, c < 256 → (c = 60 ∨ c = 61 ∨ c = 62) ∨ (plB c = true ∧ 21 ≤ kos c ∧ kos c ≤ 27 ∧ sgc (kos c) = c) ∨ (plB c = false ∧ kos c = 35) := by decide +kernel
theorem plB_iff (c : Nat) : plB c = true ↔ (c = 59 ∨ c = 40 ∨ c = 41 ∨ c = 43 ∨ c = 45 ∨ c = 42 ∨ c = 47) := by
  unfold plB
  simp only [Bool.or_eq_true, beq_iff_eq]
theorem kos_rel (c : Nat) (h : c < 256) (h0 : ¬ c = 60) (h1 : ¬ c = 61) (h2 : ¬ c = 62) : ((c = 59 ∨ c = 40 ∨ c = 41 ∨ c = 43 ∨ c = 45 ∨ c = 42 ∨ c = 47) ∧ 21 ≤ kos c ∧ kos c ≤ 27 ∧ sgc (kos c) = c) ∨ (¬ (c = 59 ∨ c = 40 ∨ c = 41 ∨ c = 43 ∨ c = 45 ∨ c = 42 ∨ c = 47) ∧ kos c = 35) := by
  rcases kos_rel0 c h with q | q | q
  · omega
  · exact Or.inl ⟨(plB_iff c).mp q.1, q.2⟩
  · exact Or.inr ⟨fun z => (by rw [(plB_iff c).mpr z] at q; exact absurd q.1 (by decide)), q.2⟩
def sgT (B : Nat → Nat) (n s : Nat) : Nat × Nat := if B s = 60 ∧ sgB B n (s + 1) = 62 then (31, s + 2) else if (B s = 60 ∨ B s = 62) ∧ sgB B n (s + 1) = 61 then ((if B s = 60 then 29 else 32), s + 2) else (kos (B s), s + 1)
theorem p_signToken {K : zQ} {I : zI} {L : zJ} {P : zP} {B : Nat → Nat} {n s : Nat} (h : RTp B n I) (hs : s < n) (ha : I 12 0 7 = nI s) (hK : ∀ I' : zI, frK I I' → I' 12 0 7 = nI (sgT B n s).2 → I' 12 0 10 = I 12 0 10 → RTk (sgT B n s).1 0 (I' 12 0 8) (I' 12 0 9) → K [] (I', L, P)) : mX12_signToken K [refR] (I, L, P) := by
  have n7 := h.2.1
  obtain ⟨t1, t2⟩ := h.2.2.1 s hs
  show bX12_signToken_0 K [some (.inr (.inr (12,0))), none, none, none] [] (I, L, P)
  unfold bX12_signToken_0
  dsimp only [x_int, x_lng, x_ild, x_lld, x_ald, x_ist, x_ast, x_lst, x_inc, x_ii, x_id, x_i, x_ll, x_ld, x_l, x_cmp, x_i2l, x_l2i, x_if, x_ic, x_dup, x_pop, x_dup2, x_gI, x_gL, x_gR, x_g1, x_g0, x_gP, x_pI, x_pZ, x_pL, x_pP, x_al, x_as, x_all, x_asl, x_alr, x_len, x_cpy, x_m2, x_m1, x_m2l, x_m1l, x_call, x_cv, x_ri, x_rz, x_rl, x_rv, zg, zset, zbef, zlong, zcat, cond_true, cond_false, List.take, List.drop, rv1, rv2, rv3, rv4, rv5, rv6, rv7, sm0, sm1, bl0, bl1, bl2, bl3, bl4, bl5, bl6, bl7, bl8, List.nil_append, List.cons_append, List.length_cons, List.length_nil, Nat.reduceBEq, Nat.reduceAdd, Nat.reduceSub, ta, tb, tn0, tn1, tn2, tn3, tn4, tn5, tn6, tn7, tn8, tn9, tn10, tn11, tn12, zk_51, zl_51]
  rw [ha, n_cl (n := s) (by omega), t1]
  obtain ⟨J1, e1, x1, k1⟩ := zsI_ex I L P 12 0 9 (nI (B s))
  rw [e1]
  dsimp only
  rw [k1 12 0 7 (by decide), ha, n_succ]
  obtain ⟨J2, e2, x2, k2⟩ := zsI_ex J1 L P 12 0 7 (nI (s + 1))
  rw [e2]
  have w2 : J2 12 0 9 = nI (B s) := by rw [k2 _ _ _ (by decide)]; exact x1
  have f2 : frK I J2 := fun a b c q => (k2 a b c (by omega)).trans (k1 a b c (by omega))
  have a2 : J2 12 0 10 = I 12 0 10 := by rw [k2 _ _ _ (by decide), k1 _ _ _ (by decide)]
  have h2 := h.k f2
  have ee : ∀ d : Nat, d < 256 → (nI (B s) = nI d ↔ B s = d) := fun d hd => n_eq (by omega) (by omega)
  refine ⟨n_zin (by omega) (by decide), ?_⟩
  dsimp only
  rw [w2]
  -- what compares
  have cmp : (B s = 60 ∨ B s = 61 ∨ B s = 62) → bX12_signToken_50 K [some refR, none, none, none] [] (J2, L, P) := fun hc => by
    have d256 : sgB B n (s + 1) < 256 := by
      unfold sgB
      split
      · rename_i q; exact (h.2.2.1 _ q).2
      · omega
    have fin : ∀ (eq un : Bool), (eq = true ↔ (¬ B s = 61 ∧ sgB B n (s + 1) = 61)) → (un = true ↔ (B s = 60 ∧ sgB B n (s + 1) = 62)) → bX12_signToken_116 K [some refR, some (.inl (nI (sgB B n (s + 1)))), some (.inl (bI eq)), none] [.inl (bI un)] (J2, L, P) := fun eq un heq hun => by
      unfold bX12_signToken_116
      dsimp only [x_int, x_lng, x_ild, x_lld, x_ald, x_ist, x_ast, x_lst, x_inc, x_ii, x_id, x_i, x_ll, x_ld, x_l, x_cmp, x_i2l, x_l2i, x_if, x_ic, x_dup, x_pop, x_dup2, x_gI, x_gL, x_gR, x_g1, x_g0, x_gP, x_pI, x_pZ, x_pL, x_pP, x_al, x_as, x_all, x_asl, x_alr, x_len, x_cpy, x_m2, x_m1, x_m2l, x_m1l, x_call, x_cv, x_ri, x_rz, x_rl, x_rv, zg, zset, zbef, zlong, zcat, cond_true, cond_false, List.take, List.drop, rv1, rv2, rv3, rv4, rv5, rv6, rv7, sm0, sm1, bl0, bl1, bl2, bl3, bl4, bl5, bl6, bl7, bl8, List.nil_append, List.cons_append, List.length_cons, List.length_nil, Nat.reduceBEq, Nat.reduceAdd, Nat.reduceSub, ta, tb, tn0, tn1, tn2, tn3, tn4, tn5, tn6, tn7, tn8, tn9, tn10, tn11, tn12]
      have last : ∀ (J3 : zI) (nx : Nat), frK I J3 → J3 12 0 7 = nI nx → J3 12 0 9 = nI (B s) → J3 12 0 10 = I 12 0 10 → nx = (if eq = true ∨ un = true then s + 2 else s + 1) → bX12_signToken_135 K [some refR, some (.inl (nI (sgB B n (s + 1)))), some (.inl (bI eq)), some (.inl (bI un))] [] (J3, L, P) := fun J3 nx f3 n3 w3 a3 hnx => by
        unfold bX12_signToken_135
        dsimp only [x_int, x_lng, x_ild, x_lld, x_ald, x_ist, x_ast, x_lst, x_inc, x_ii, x_id, x_i, x_ll, x_ld, x_l, x_cmp, x_i2l, x_l2i, x_if, x_ic, x_dup, x_pop, x_dup2, x_gI, x_gL, x_gR, x_g1, x_g0, x_gP, x_pI, x_pZ, x_pL, x_pP, x_al, x_as, x_all, x_asl, x_alr, x_len, x_cpy, x_m2, x_m1, x_m2l, x_m1l, x_call, x_cv, x_ri, x_rz, x_rl, x_rv, zg, zset, zbef, zlong, zcat, cond_true, cond_false, List.take, List.drop, rv1, rv2, rv3, rv4, rv5, rv6, rv7, sm0, sm1, bl0, bl1, bl2, bl3, bl4, bl5, bl6, bl7, bl8, List.nil_append, List.cons_append, List.length_cons, List.length_nil, Nat.reduceBEq, Nat.reduceAdd, Nat.reduceSub, ta, tb, tn0, tn1, tn2, tn3, tn4, tn5, tn6, tn7, tn8, tn9, tn10, tn11, tn12]
        obtain ⟨J4, e4, x4, k4⟩ := zsI_ex J3 L P 12 0 8 5
        rw [e4]
        dsimp only
        rw [k4 12 0 9 (by decide), w3]
        have done : ∀ v : Nat, v ≤ 5 → sgT B n s = (v + 28, nx) → bX12_signToken_192 K [some refR, some (.inl (nI (sgB B n (s + 1)))), some (.inl (bI eq)), some (.inl (bI un))] [.inl (nI v), refR] (J4, L, P) := fun v hv5 hv => by
          unfold bX12_signToken_192
          dsimp only [x_int, x_lng, x_ild, x_lld, x_ald, x_ist, x_ast, x_lst, x_inc, x_ii, x_id, x_i, x_ll, x_ld, x_l, x_cmp, x_i2l, x_l2i, x_if, x_ic, x_dup, x_pop, x_dup2, x_gI, x_gL, x_gR, x_g1, x_g0, x_gP, x_pI, x_pZ, x_pL, x_pP, x_al, x_as, x_all, x_asl, x_alr, x_len, x_cpy, x_m2, x_m1, x_m2l, x_m1l, x_call, x_cv, x_ri, x_rz, x_rl, x_rv, zg, zset, zbef, zlong, zcat, cond_true, cond_false, List.take, List.drop, rv1, rv2, rv3, rv4, rv5, rv6, rv7, sm0, sm1, bl0, bl1, bl2, bl3, bl4, bl5, bl6, bl7, bl8, List.nil_append, List.cons_append, List.length_cons, List.length_nil, Nat.reduceBEq, Nat.reduceAdd, Nat.reduceSub, ta, tb, tn0, tn1, tn2, tn3, tn4, tn5, tn6, tn7, tn8, tn9, tn10, tn11, tn12, bX12_signToken_290]
          obtain ⟨J5, e5, x5, k5⟩ := zsI_ex J4 L P 12 0 9 (nI v)
          rw [e5]
          refine hK J5 (fun a b c q => ((k5 a b c (by omega)).trans (k4 a b c (by omega))).trans (f3 a b c q)) ?_ ?_ ?_
          · rw [k5 _ _ _ (by decide), k4 _ _ _ (by decide), n3, hv]
          · rw [k5 _ _ _ (by decide), k4 _ _ _ (by decide), a3]
          · rw [k5 12 0 8 (by decide), x4, x5, hv]
            refine Or.inr (Or.inr (Or.inr (Or.inr (Or.inr (Or.inl ⟨?_, ?_, rfl, ?_⟩)))))
            · dsimp only; omega
            · dsimp only; omega
            · dsimp only; rw [show v + 28 - 28 = v by omega]
        unfold sgT at done
        refine ⟨fun z => done 2 (by omega) ?_, fun z => ⟨fun y => ⟨fun q => ⟨fun r => done 0 (by omega) ?_, fun r => done 3 (by omega) ?_⟩, fun q => done 1 (by omega) ?_⟩, fun y => ⟨fun q => done 5 (by omega) ?_, fun q => done 4 (by omega) ?_⟩⟩⟩
        · have z : B s = 61 := (ee 61 (by omega)).mp z
          have ne : ¬ eq = true := fun w => (heq.mp w).1 z
          have nu : ¬ un = true := fun w => by have := (hun.mp w).1; omega
          rw [if_neg (by omega), if_neg (by omega), z, hnx, if_neg (by simp [ne, nu])]
          rfl
        · have y : B s = 60 := (ee 60 (by omega)).mp y
          have ne : ¬ eq = true := fun w => by rw [w] at q; exact absurd q (by decide)
          have nu : ¬ un = true := fun w => by rw [w] at r; exact absurd r (by decide)
          rw [if_neg (fun w => nu (hun.mpr w)), if_neg (fun w => ne (heq.mpr ⟨by omega, w.2⟩)), y, hnx, if_neg (by simp [ne, nu])]
          rfl
        · have y : B s = 60 := (ee 60 (by omega)).mp y
          have yu : un = true := by cases un with
            | true => rfl
            | false => exact absurd rfl r
          rw [if_pos (hun.mp yu), hnx, if_pos (Or.inr yu)]
        · have y : B s = 60 := (ee 60 (by omega)).mp y
          have ye : eq = true := by cases eq with
            | true => rfl
            | false => exact absurd rfl q
          have := (heq.mp ye).2
          rw [if_neg (by omega), if_pos ⟨Or.inl y, this⟩, if_pos y, hnx, if_pos (Or.inl ye)]
        · have y : ¬ B s = 60 := fun w => y ((ee 60 (by omega)).mpr w)
          have z : ¬ B s = 61 := fun w => z ((ee 61 (by omega)).mpr w)
          have b62 : B s = 62 := by omega
          have ne : ¬ eq = true := fun w => by rw [w] at q; exact absurd q (by decide)
          have nu : ¬ un = true := fun w => y (hun.mp w).1
          rw [if_neg (by omega), if_neg (fun w => ne (heq.mpr ⟨z, w.2⟩)), b62, hnx, if_neg (by simp [ne, nu])]
          rfl
        · have y : ¬ B s = 60 := fun w => y ((ee 60 (by omega)).mpr w)
          have z : ¬ B s = 61 := fun w => z ((ee 61 (by omega)).mpr w)
          have b62 : B s = 62 := by omega
          have ye : eq = true := by cases eq with
            | true => rfl
            | false => exact absurd rfl q
          have := (heq.mp ye).2
          rw [if_neg (by omega), if_pos ⟨Or.inr b62, this⟩, if_neg y, hnx, if_pos (Or.inl ye)]
      have more : (eq = true ∨ un = true) → bX12_signToken_125 K [some refR, some (.inl (nI (sgB B n (s + 1)))), some (.inl (bI eq)), some (.inl (bI un))] [] (J2, L, P) := fun hq => by
        unfold bX12_signToken_125
        dsimp only [x_int, x_lng, x_ild, x_lld, x_ald, x_ist, x_ast, x_lst, x_inc, x_ii, x_id, x_i, x_ll, x_ld, x_l, x_cmp, x_i2l, x_l2i, x_if, x_ic, x_dup, x_pop, x_dup2, x_gI, x_gL, x_gR, x_g1, x_g0, x_gP, x_pI, x_pZ, x_pL, x_pP, x_al, x_as, x_all, x_asl, x_alr, x_len, x_cpy, x_m2, x_m1, x_m2l, x_m1l, x_call, x_cv, x_ri, x_rz, x_rl, x_rv, zg, zset, zbef, zlong, zcat, cond_true, cond_false, List.take, List.drop, rv1, rv2, rv3, rv4, rv5, rv6, rv7, sm0, sm1, bl0, bl1, bl2, bl3, bl4, bl5, bl6, bl7, bl8, List.nil_append, List.cons_append, List.length_cons, List.length_nil, Nat.reduceBEq, Nat.reduceAdd, Nat.reduceSub, ta, tb, tn0, tn1, tn2, tn3, tn4, tn5, tn6, tn7, tn8, tn9, tn10, tn11, tn12]
        rw [x2, n_succ]
        obtain ⟨J3, e3, x3, k3⟩ := zsI_ex J2 L P 12 0 7 (nI (s + 1 + 1))
        rw [e3]
        exact last J3 (s + 1 + 1) (fun a b c q => (k3 a b c (by omega)).trans (f2 a b c q)) x3 ((k3 _ _ _ (by decide)).trans w2) ((k3 _ _ _ (by decide)).trans a2) (by rw [if_pos hq])
      refine ⟨fun q => ⟨fun r => ?_, fun r => more (Or.inr ?_)⟩, fun q => more (Or.inl ?_)⟩
      · have ne : ¬ eq = true := fun w => by rw [w] at q; exact absurd q (by decide)
        have nu : ¬ un = true := fun w => by rw [w] at r; exact absurd r (by decide)
        exact last J2 (s + 1) f2 x2 w2 a2 (by rw [if_neg (by simp [ne, nu])])
      · cases un with
        | true => rfl
        | false => exact absurd rfl r
      · cases eq with
        | true => rfl
        | false => exact absurd rfl q
    have b95 : ∀ eq : Bool, (eq = true ↔ (¬ B s = 61 ∧ sgB B n (s + 1) = 61)) → bX12_signToken_95 K [some refR, some (.inl (nI (sgB B n (s + 1)))), none, none] [.inl (bI eq)] (J2, L, P) := fun eq heq => by
      unfold bX12_signToken_95
      dsimp only [x_int, x_lng, x_ild, x_lld, x_ald, x_ist, x_ast, x_lst, x_inc, x_ii, x_id, x_i, x_ll, x_ld, x_l, x_cmp, x_i2l, x_l2i, x_if, x_ic, x_dup, x_pop, x_dup2, x_gI, x_gL, x_gR, x_g1, x_g0, x_gP, x_pI, x_pZ, x_pL, x_pP, x_al, x_as, x_all, x_asl, x_alr, x_len, x_cpy, x_m2, x_m1, x_m2l, x_m1l, x_call, x_cv, x_ri, x_rz, x_rl, x_rv, zg, zset, zbef, zlong, zcat, cond_true, cond_false, List.take, List.drop, rv1, rv2, rv3, rv4, rv5, rv6, rv7, sm0, sm1, bl0, bl1, bl2, bl3, bl4, bl5, bl6, bl7, bl8, List.nil_append, List.cons_append, List.length_cons, List.length_nil, Nat.reduceBEq, Nat.reduceAdd, Nat.reduceSub, ta, tb, tn0, tn1, tn2, tn3, tn4, tn5, tn6, tn7, tn8, tn9, tn10, tn11, tn12, bX12_signToken_115]
      rw [w2]
      have d62 : (nI (sgB B n (s + 1)) = 62) ↔ sgB B n (s + 1) = 62 := n_eq (b := 62) (by omega) (by omega)
      refine ⟨fun z => ⟨fun y => fin eq true heq ⟨fun _ => ⟨(ee 60 (by omega)).mp z, d62.mp y⟩, fun _ => rfl⟩, fun y => fin eq false heq ⟨fun w => (by cases w), fun w => absurd (d62.mpr w.2) y⟩⟩, fun z => fin eq false heq ⟨fun w => (by cases w), fun w => absurd ((ee 60 (by omega)).mpr w.1) z⟩⟩
    have b74 : bX12_signToken_74 K [some refR, none, none, none] [.inl (nI (sgB B n (s + 1)))] (J2, L, P) := by
      unfold bX12_signToken_74
      dsimp only [x_int, x_lng, x_ild, x_lld, x_ald, x_ist, x_ast, x_lst, x_inc, x_ii, x_id, x_i, x_ll, x_ld, x_l, x_cmp, x_i2l, x_l2i, x_if, x_ic, x_dup, x_pop, x_dup2, x_gI, x_gL, x_gR, x_g1, x_g0, x_gP, x_pI, x_pZ, x_pL, x_pP, x_al, x_as, x_all, x_asl, x_alr, x_len, x_cpy, x_m2, x_m1, x_m2l, x_m1l, x_call, x_cv, x_ri, x_rz, x_rl, x_rv, zg, zset, zbef, zlong, zcat, cond_true, cond_false, List.take, List.drop, rv1, rv2, rv3, rv4, rv5, rv6, rv7, sm0, sm1, bl0, bl1, bl2, bl3, bl4, bl5, bl6, bl7, bl8, List.nil_append, List.cons_append, List.length_cons, List.length_nil, Nat.reduceBEq, Nat.reduceAdd, Nat.reduceSub, ta, tb, tn0, tn1, tn2, tn3, tn4, tn5, tn6, tn7, tn8, tn9, tn10, tn11, tn12, bX12_signToken_94]
      rw [w2]
      have d61 : (nI (sgB B n (s + 1)) = 61) ↔ sgB B n (s + 1) = 61 := n_eq (b := 61) (by omega) (by omega)
      refine ⟨fun z => b95 false ⟨fun w => (by cases w), fun w => absurd ((ee 61 (by omega)).mp z) w.1⟩, fun z => ⟨fun y => b95 true ⟨fun _ => ⟨fun w => z ((ee 61 (by omega)).mpr w), d61.mp y⟩, fun _ => rfl⟩, fun y => b95 false ⟨fun w => (by cases w), fun w => absurd (d61.mpr w.2) y⟩⟩⟩
    unfold bX12_signToken_50
    dsimp only [x_int, x_lng, x_ild, x_lld, x_ald, x_ist, x_ast, x_lst, x_inc, x_ii, x_id, x_i, x_ll, x_ld, x_l, x_cmp, x_i2l, x_l2i, x_if, x_ic, x_dup, x_pop, x_dup2, x_gI, x_gL, x_gR, x_g1, x_g0, x_gP, x_pI, x_pZ, x_pL, x_pP, x_al, x_as, x_all, x_asl, x_alr, x_len, x_cpy, x_m2, x_m1, x_m2l, x_m1l, x_call, x_cv, x_ri, x_rz, x_rl, x_rv, zg, zset, zbef, zlong, zcat, cond_true, cond_false, List.take, List.drop, rv1, rv2, rv3, rv4, rv5, rv6, rv7, sm0, sm1, bl0, bl1, bl2, bl3, bl4, bl5, bl6, bl7, bl8, List.nil_append, List.cons_append, List.length_cons, List.length_nil, Nat.reduceBEq, Nat.reduceAdd, Nat.reduceSub, ta, tb, tn0, tn1, tn2, tn3, tn4, tn5, tn6, tn7, tn8, tn9, tn10, tn11, tn12, zk_51, zl_51]
    rw [x2, h2.1, n_cl (n := s + 1) (by omega)]
    unfold sgB at b74
    refine ⟨fun q => ?_, fun q => ⟨n_zin (by
      have q : ¬ nI n ≤ nI (s + 1) := q
      rw [n_le (by omega) (by omega)] at q
      omega) (by decide), ?_⟩⟩
    · have q : nI n ≤ nI (s + 1) := q
      rw [n_le (by omega) (by omega)] at q
      rw [if_neg (by omega)] at b74
      exact b74
    · have q : ¬ nI n ≤ nI (s + 1) := q
      rw [n_le (by omega) (by omega)] at q
      rw [if_pos (by omega)] at b74
      rw [(h2.2.2.1 (s + 1) (by omega)).1]
      exact b74
  have plain : ¬ B s = 60 → ¬ B s = 61 → ¬ B s = 62 → ∀ v : Bool, (v = true → (B s = 59 ∨ B s = 40 ∨ B s = 41 ∨ B s = 43 ∨ B s = 45 ∨ B s = 42 ∨ B s = 47 ∨ B s = 37)) → (v = false → ¬ (B s = 59 ∨ B s = 40 ∨ B s = 41 ∨ B s = 43 ∨ B s = 45 ∨ B s = 42 ∨ B s = 47)) → bX12_signToken_275 K [some refR, none, none, none] [.inl (bI v)] (J2, L, P) := fun n60 n61 n62 v hv hv2 => by
    have sg : sgT B n s = (kos (B s), s + 1) := by
      unfold sgT
      rw [if_neg (by omega), if_neg (by omega)]
    rw [sg] at hK
    unfold bX12_signToken_275
    dsimp only [x_int, x_lng, x_ild, x_lld, x_ald, x_ist, x_ast, x_lst, x_inc, x_ii, x_id, x_i, x_ll, x_ld, x_l, x_cmp, x_i2l, x_l2i, x_if, x_ic, x_dup, x_pop, x_dup2, x_gI, x_gL, x_gR, x_g1, x_g0, x_gP, x_pI, x_pZ, x_pL, x_pP, x_al, x_as, x_all, x_asl, x_alr, x_len, x_cpy, x_m2, x_m1, x_m2l, x_m1l, x_call, x_cv, x_ri, x_rz, x_rl, x_rv, zg, zset, zbef, zlong, zcat, cond_true, cond_false, List.take, List.drop, rv1, rv2, rv3, rv4, rv5, rv6, rv7, sm0, sm1, bl0, bl1, bl2, bl3, bl4, bl5, bl6, bl7, bl8, List.nil_append, List.cons_append, List.length_cons, List.length_nil, Nat.reduceBEq, Nat.reduceAdd, Nat.reduceSub, ta, tb, tn0, tn1, tn2, tn3, tn4, tn5, tn6, tn7, tn8, tn9, tn10, tn11, tn12, bX12_signToken_287, bX12_signToken_290]
    have fin : ∀ x : Int32, RTk (kos (B s)) 0 x (nI (B s)) → K [] (zsI (J2, L, P) 12 0 8 x) := fun x hx => by
      obtain ⟨J3, e3, x3, k3⟩ := zsI_ex J2 L P 12 0 8 x
      rw [e3]
      refine hK J3 (fun a b c q => (k3 a b c (by omega)).trans (f2 a b c q)) ((k3 _ _ _ (by decide)).trans x2) ((k3 _ _ _ (by decide)).trans a2) ?_
      rw [x3, k3 12 0 9 (by decide), w2]
      exact hx
    have kr := kos_rel (B s) t2 n60 n61 n62
    cases v with
    | false =>
      refine ⟨fun _ => fin 6 ?_, fun z => absurd rfl z⟩
      rcases kr with ⟨a, -⟩ | ⟨a, b⟩
      · exact absurd a (hv2 rfl)
      · exact Or.inr (Or.inr (Or.inr (Or.inr (Or.inr (Or.inr ⟨b, Or.inl rfl⟩)))))
    | true =>
      refine ⟨fun z => absurd z (by decide), fun _ => fin 4 ?_⟩
      rcases kr with ⟨a, b, c, d⟩ | ⟨a, b⟩
      · exact Or.inr (Or.inr (Or.inr (Or.inr (Or.inl ⟨b, c, rfl, by rw [d]⟩))))
      · have : B s = 37 := by have := hv rfl; omega
        exact Or.inr (Or.inr (Or.inr (Or.inr (Or.inr (Or.inr ⟨b, Or.inr ⟨rfl, by rw [this]; rfl⟩⟩)))))
  have go : ¬ B s = 60 → ¬ B s = 61 → ¬ B s = 62 → (B s = 59 ∨ B s = 40 ∨ B s = 41 ∨ B s = 43 ∨ B s = 45 ∨ B s = 42 ∨ B s = 47 ∨ B s = 37) → bX12_signToken_270 K [some refR, none, none, none] [] (J2, L, P) := fun a b c d => by
    unfold bX12_signToken_270
    exact plain a b c true (fun _ => d) (fun w => by cases w)
  refine ⟨fun z => cmp (Or.inl ((ee 60 (by omega)).mp z)), fun z60 => ⟨fun z => cmp (Or.inr (Or.inr ((ee 62 (by omega)).mp z))), fun z62 => ⟨fun z => cmp (Or.inr (Or.inl ((ee 61 (by omega)).mp z))), fun z61 => ?_⟩⟩⟩
  have n60 : ¬ B s = 60 := fun w => z60 ((ee 60 (by omega)).mpr w)
  have n61 : ¬ B s = 61 := fun w => z61 ((ee 61 (by omega)).mpr w)
  have n62 : ¬ B s = 62 := fun w => z62 ((ee 62 (by omega)).mpr w)
  refine ⟨fun z => go n60 n61 n62 (by have := (ee 59 (by omega)).mp z; omega), fun y59 => ?_⟩
  refine ⟨fun z => go n60 n61 n62 (by have := (ee 40 (by omega)).mp z; omega), fun y40 => ?_⟩
  refine ⟨fun z => go n60 n61 n62 (by have := (ee 41 (by omega)).mp z; omega), fun y41 => ?_⟩
  refine ⟨fun z => go n60 n61 n62 (by have := (ee 43 (by omega)).mp z; omega), fun y43 => ?_⟩
  refine ⟨fun z => go n60 n61 n62 (by have := (ee 45 (by omega)).mp z; omega), fun y45 => ?_⟩
  refine ⟨fun z => go n60 n61 n62 (by have := (ee 42 (by omega)).mp z; omega), fun y42 => ?_⟩
  refine ⟨fun z => go n60 n61 n62 (by have := (ee 47 (by omega)).mp z; omega), fun y47 => ?_⟩
  refine ⟨fun z => go n60 n61 n62 (by have := (ee 37 (by omega)).mp z; omega), fun y37 => ?_⟩
  refine plain n60 n61 n62 false (fun w => by cases w) (fun _ w => ?_)
  rcases w with w | w | w | w | w | w | w
  · exact y59 ((ee 59 (by omega)).mpr w)
  · exact y40 ((ee 40 (by omega)).mpr w)
  · exact y41 ((ee 41 (by omega)).mpr w)
  · exact y43 ((ee 43 (by omega)).mpr w)
  · exact y45 ((ee 45 (by omega)).mpr w)
  · exact y42 ((ee 42 (by omega)).mpr w)
  · exact y47 ((ee 47 (by omega)).mpr w)
theorem p_token {K : zQ} {I : zI} {L : zJ} {P : zP} {B : Nat → Nat} {n p : Nat} (h : RTp B n I) (hp : p ≤ n) (ha : I 12 0 7 = nI p) (hK : ∀ I' : zI, frK I I' → rtk (tkn B n p) I' → K [] (I', L, P)) : mX12_token K [refR] (I, L, P) := by
  have n7 := h.2.1
  show bX12_token_0 K [some refR] [] (I, L, P)
  refine zmea (fun k Z M => ∃ (I' : zI) (q : Nat), Z = [some refR] ∧ M = (I', L, P) ∧ k = n - q ∧ q ≤ n ∧ frK I I' ∧ I' 12 0 7 = nI q ∧ rn (fun q => isW (B q)) n p = rn (fun q => isW (B q)) n q) ?_ (n - p) ⟨I, p, rfl, rfl, rfl, hp, fun _ _ _ _ => rfl, ha, rfl⟩
  rintro k Z M ⟨I', q, rfl, rfl, hk, hq, f1, a1, a4⟩ self hself
  have h' := h.k f1
  have out : rn (fun q => isW (B q)) n q = q → bX12_token_52 K [some refR] [] (I', L, P) := fun e => by
    rw [e] at a4
    unfold tkn at hK
    rw [a4] at hK
    unfold bX12_token_52
    dsimp only [x_int, x_lng, x_ild, x_lld, x_ald, x_ist, x_ast, x_lst, x_inc, x_ii, x_id, x_i, x_ll, x_ld, x_l, x_cmp, x_i2l, x_l2i, x_if, x_ic, x_dup, x_pop, x_dup2, x_gI, x_gL, x_gR, x_g1, x_g0, x_gP, x_pI, x_pZ, x_pL, x_pP, x_al, x_as, x_all, x_asl, x_alr, x_len, x_cpy, x_m2, x_m1, x_m2l, x_m1l, x_call, x_cv, x_ri, x_rz, x_rl, x_rv, zg, zset, zbef, zlong, zcat, cond_true, cond_false, List.take, List.drop, rv1, rv2, rv3, rv4, rv5, rv6, rv7, sm0, sm1, bl0, bl1, bl2, bl3, bl4, bl5, bl6, bl7, bl8, List.nil_append, List.cons_append, List.length_cons, List.length_nil, Nat.reduceBEq, Nat.reduceAdd, Nat.reduceSub, ta, tb, tn0, tn1, tn2, tn3, tn4, tn5, tn6, tn7, tn8, tn9, tn10, tn11, tn12]
    rw [a1]
    obtain ⟨J1, e1, x1, k1⟩ := zsI_ex I' L P 12 0 10 (nI q)
    rw [e1]
    have f2 : frK I J1 := fun a b c z => (k1 a b c (by omega)).trans (f1 a b c z)
    have h2 := h.k f2
    have nx2 : J1 12 0 7 = nI q := by rw [k1 _ _ _ (by decide)]; exact a1
    dsimp only
    rw [nx2, h2.1]
    dsimp only at hK
    refine ⟨fun z => ?_, fun z => ?_⟩
    · have z : nI q = nI n := z
      rw [n_eq (by omega) (by omega)] at z
      rw [if_neg (by omega)] at hK
      obtain ⟨J2, e2, x2, k2⟩ := zsI_ex J1 L P 12 0 8 0
      rw [e2]
      dsimp only [x_int, x_lng, x_ild, x_lld, x_ald, x_ist, x_ast, x_lst, x_inc, x_ii, x_id, x_i, x_ll, x_ld, x_l, x_cmp, x_i2l, x_l2i, x_if, x_ic, x_dup, x_pop, x_dup2, x_gI, x_gL, x_gR, x_g1, x_g0, x_gP, x_pI, x_pZ, x_pL, x_pP, x_al, x_as, x_all, x_asl, x_alr, x_len, x_cpy, x_m2, x_m1, x_m2l, x_m1l, x_call, x_cv, x_ri, x_rz, x_rl, x_rv, zg, zset, zbef, zlong, zcat, cond_true, cond_false, List.take, List.drop, rv1, rv2, rv3, rv4, rv5, rv6, rv7, sm0, sm1, bl0, bl1, bl2, bl3, bl4, bl5, bl6, bl7, bl8, List.nil_append, List.cons_append, List.length_cons, List.length_nil, Nat.reduceBEq, Nat.reduceAdd, Nat.reduceSub, ta, tb, tn0, tn1, tn2, tn3, tn4, tn5, tn6, tn7, tn8, tn9, tn10, tn11, tn12, bX12_token_281]
      exact hK J2 (fun a b c y => (k2 a b c (by omega)).trans (f2 a b c y)) ⟨(k2 _ _ _ (by decide)).trans nx2, (k2 _ _ _ (by decide)).trans x1, Or.inl ⟨rfl, x2⟩⟩
    · have z : ¬ nI q = nI n := z
      rw [n_eq (by omega) (by omega)] at z
      have z : q < n := by omega
      rw [if_pos z] at hK
      have t2 := (h.2.2.1 q z).2
      refine p_isSmall h2 (by omega) ?_
      rw [decide_eq_true z, Bool.true_and]
      dsimp only [x_int, x_lng, x_ild, x_lld, x_ald, x_ist, x_ast, x_lst, x_inc, x_ii, x_id, x_i, x_ll, x_ld, x_l, x_cmp, x_i2l, x_l2i, x_if, x_ic, x_dup, x_pop, x_dup2, x_gI, x_gL, x_gR, x_g1, x_g0, x_gP, x_pI, x_pZ, x_pL, x_pP, x_al, x_as, x_all, x_asl, x_alr, x_len, x_cpy, x_m2, x_m1, x_m2l, x_m1l, x_call, x_cv, x_ri, x_rz, x_rl, x_rv, zg, zset, zbef, zlong, zcat, cond_true, cond_false, List.take, List.drop, rv1, rv2, rv3, rv4, rv5, rv6, rv7, sm0, sm1, bl0, bl1, bl2, bl3, bl4, bl5, bl6, bl7, bl8, List.nil_append, List.cons_append, List.length_cons, List.length_nil, Nat.reduceBEq, Nat.reduceAdd, Nat.reduceSub, ta, tb, tn0, tn1, tn2, tn3, tn4, tn5, tn6, tn7, tn8, tn9, tn10, tn11, tn12]
      cases el : isL (B q) with
      | true =>
        rw [if_pos el] at hK
        refine ⟨fun y => absurd y (by decide), fun _ => ?_⟩
        have le := rn_b (P := fun q => isL (B q)) (n := n) (p := q) (by omega)
        have all := rn_all (P := fun q => isL (B q)) (n := n) _ q rfl (by omega)
        refine zmea (fun k Z M => ∃ (I3 : zI) (r : Nat), Z = [some refR] ∧ M = (I3, L, P) ∧ k = n - r ∧ q ≤ r ∧ r ≤ n ∧ frK I I3 ∧ I3 12 0 7 = nI r ∧ I3 12 0 10 = nI q ∧ rn (fun q => isL (B q)) n q = rn (fun q => isL (B q)) n r) ?_ (n - q) ⟨J1, q, rfl, rfl, rfl, by omega, by omega, f2, nx2, x1, rfl⟩
        rintro k Z M ⟨I3, r, rfl, rfl, hk3, hr, hr2, f3, b1, b2, b3⟩ self3 hself3
        have h3 := h.k f3
        dsimp only [x_int, x_lng, x_ild, x_lld, x_ald, x_ist, x_ast, x_lst, x_inc, x_ii, x_id, x_i, x_ll, x_ld, x_l, x_cmp, x_i2l, x_l2i, x_if, x_ic, x_dup, x_pop, x_dup2, x_gI, x_gL, x_gR, x_g1, x_g0, x_gP, x_pI, x_pZ, x_pL, x_pP, x_al, x_as, x_all, x_asl, x_alr, x_len, x_cpy, x_m2, x_m1, x_m2l, x_m1l, x_call, x_cv, x_ri, x_rz, x_rl, x_rv, zg, zset, zbef, zlong, zcat, cond_true, cond_false, List.take, List.drop, rv1, rv2, rv3, rv4, rv5, rv6, rv7, sm0, sm1, bl0, bl1, bl2, bl3, bl4, bl5, bl6, bl7, bl8, List.nil_append, List.cons_append, List.length_cons, List.length_nil, Nat.reduceBEq, Nat.reduceAdd, Nat.reduceSub, ta, tb, tn0, tn1, tn2, tn3, tn4, tn5, tn6, tn7, tn8, tn9, tn10, tn11, tn12]
        rw [b1]
        refine p_isSmall h3 (by omega) ?_
        dsimp only [x_int, x_lng, x_ild, x_lld, x_ald, x_ist, x_ast, x_lst, x_inc, x_ii, x_id, x_i, x_ll, x_ld, x_l, x_cmp, x_i2l, x_l2i, x_if, x_ic, x_dup, x_pop, x_dup2, x_gI, x_gL, x_gR, x_g1, x_g0, x_gP, x_pI, x_pZ, x_pL, x_pP, x_al, x_as, x_all, x_asl, x_alr, x_len, x_cpy, x_m2, x_m1, x_m2l, x_m1l, x_call, x_cv, x_ri, x_rz, x_rl, x_rv, zg, zset, zbef, zlong, zcat, cond_true, cond_false, List.take, List.drop, rv1, rv2, rv3, rv4, rv5, rv6, rv7, sm0, sm1, bl0, bl1, bl2, bl3, bl4, bl5, bl6, bl7, bl8, List.nil_append, List.cons_append, List.length_cons, List.length_nil, Nat.reduceBEq, Nat.reduceAdd, Nat.reduceSub, ta, tb, tn0, tn1, tn2, tn3, tn4, tn5, tn6, tn7, tn8, tn9, tn10, tn11, tn12]
        by_cases c : r < n ∧ isL (B r) = true
        · rw [decide_eq_true c.1, c.2]
          refine ⟨fun y => absurd y (by decide), fun _ => ?_⟩
          rw [b1, n_succ]
          obtain ⟨J3, e3, x3, k3⟩ := zsI_ex I3 L P 12 0 7 (nI (r + 1))
          rw [e3]
          exact hself3 (n - (r + 1)) _ _ (by omega) ⟨J3, r + 1, rfl, rfl, rfl, by omega, by omega, fun a b c y => (k3 a b c (by omega)).trans (f3 a b c y), x3, (k3 _ _ _ (by decide)).trans b2, by rw [b3, rn_go c.1 c.2]⟩
        · have c' : (decide (r < n) && isL (B r)) = false := by
            cases y : (decide (r < n) && isL (B r)) with
            | false => rfl
            | true =>
              simp only [Bool.and_eq_true, decide_eq_true_eq] at y
              exact absurd y c
          rw [c']
          rw [rn_stop (p := r) c] at b3
          rw [b3] at hK all le
          refine ⟨fun _ => ?_, fun y => absurd rfl y⟩
          have hl : ∀ j, j < r - q → isL (B (q + j)) = true := fun j hj => all (q + j) (by omega) (by omega)
          have wr := word_rel hr hl
          rw [b2, b1]
          refine p_wordAt h3.2.2.2 (fun i hi => (h3.2.2.1 i hi).1) hr hr2 n7 ?_
          dsimp only [x_int, x_lng, x_ild, x_lld, x_ald, x_ist, x_ast, x_lst, x_inc, x_ii, x_id, x_i, x_ll, x_ld, x_l, x_cmp, x_i2l, x_l2i, x_if, x_ic, x_dup, x_pop, x_dup2, x_gI, x_gL, x_gR, x_g1, x_g0, x_gP, x_pI, x_pZ, x_pL, x_pP, x_al, x_as, x_all, x_asl, x_alr, x_len, x_cpy, x_m2, x_m1, x_m2l, x_m1l, x_call, x_cv, x_ri, x_rz, x_rl, x_rv, zg, zset, zbef, zlong, zcat, cond_true, cond_false, List.take, List.drop, rv1, rv2, rv3, rv4, rv5, rv6, rv7, sm0, sm1, bl0, bl1, bl2, bl3, bl4, bl5, bl6, bl7, bl8, List.nil_append, List.cons_append, List.length_cons, List.length_nil, Nat.reduceBEq, Nat.reduceAdd, Nat.reduceSub, ta, tb, tn0, tn1, tn2, tn3, tn4, tn5, tn6, tn7, tn8, tn9, tn10, tn11, tn12]
          obtain ⟨J3, e3, x3, k3⟩ := zsI_ex I3 L P 12 0 9 (wbR (wat B q r 19))
          rw [e3]
          dsimp only
          rw [x3, k3 12 0 7 (by decide), b1, k3 12 0 10 (by decide), b2, pk_sub hr]
          have f4 : frK I J3 := fun a b c y => (k3 a b c (by omega)).trans (f3 a b c y)
          have h4 := h.k f4
          have nx4 : J3 12 0 7 = nI r := (k3 _ _ _ (by decide)).trans b1
          have at4 : J3 12 0 10 = nI q := (k3 _ _ _ (by decide)).trans b2
          have fin : ∀ x : Int32, ¬ x = 2 → RTk (if r - q ≤ 6 then kow (pkC B q (r - q)) 19 else 35) (pkC B q (r - q)) x (wbR (wat B q r 19)) → bX12_token_162 K [some refR] [.inl x, refR] (J3, L, P) := fun x hx hr9 => by
            unfold bX12_token_162
            dsimp only [x_int, x_lng, x_ild, x_lld, x_ald, x_ist, x_ast, x_lst, x_inc, x_ii, x_id, x_i, x_ll, x_ld, x_l, x_cmp, x_i2l, x_l2i, x_if, x_ic, x_dup, x_pop, x_dup2, x_gI, x_gL, x_gR, x_g1, x_g0, x_gP, x_pI, x_pZ, x_pL, x_pP, x_al, x_as, x_all, x_asl, x_alr, x_len, x_cpy, x_m2, x_m1, x_m2l, x_m1l, x_call, x_cv, x_ri, x_rz, x_rl, x_rv, zg, zset, zbef, zlong, zcat, cond_true, cond_false, List.take, List.drop, rv1, rv2, rv3, rv4, rv5, rv6, rv7, sm0, sm1, bl0, bl1, bl2, bl3, bl4, bl5, bl6, bl7, bl8, List.nil_append, List.cons_append, List.length_cons, List.length_nil, Nat.reduceBEq, Nat.reduceAdd, Nat.reduceSub, ta, tb, tn0, tn1, tn2, tn3, tn4, tn5, tn6, tn7, tn8, tn9, tn10, tn11, tn12, bX12_token_281]
            obtain ⟨J4, e4, x4, k4⟩ := zsI_ex J3 L P 12 0 8 x
            rw [e4]
            dsimp only
            rw [x4]
            refine ⟨fun y => absurd y hx, fun _ => hK J4 (fun a b c y => (k4 a b c (by omega)).trans (f4 a b c y)) ⟨(k4 _ _ _ (by decide)).trans nx4, (k4 _ _ _ (by decide)).trans at4, ?_⟩⟩
            rw [x4, k4 12 0 9 (by decide), x3]
            exact hr9
          rcases wr with ⟨w, w1, w2, w3, w4⟩ | ⟨w1, w2⟩
          · rw [w4] at fin ⊢
            have sl := (sgm_lt w w1).1
            refine ⟨fun y => ?_, fun _ => fin 1 (by decide) ?_⟩
            · have y : nI (sgm w) < nI 0 := y
              rw [n_lt (by omega) (by omega)] at y
              omega
            · rw [if_pos w2, w3]
              exact Or.inr (Or.inl ⟨by omega, rfl, rfl⟩)
          · rw [w1] at fin ⊢
            refine ⟨fun _ => ⟨fun y => ?_, fun y => fin 6 (by decide) ?_⟩, fun y => absurd (show (-1 : Int32) < 0 by decide) y⟩
            · have y : nI (r - q) ≤ nI 6 := y
              rw [n_le (by omega) (by omega)] at y
              rw [if_pos y, w2 y] at hK
              unfold bX12_token_162
              dsimp only [x_int, x_lng, x_ild, x_lld, x_ald, x_ist, x_ast, x_lst, x_inc, x_ii, x_id, x_i, x_ll, x_ld, x_l, x_cmp, x_i2l, x_l2i, x_if, x_ic, x_dup, x_pop, x_dup2, x_gI, x_gL, x_gR, x_g1, x_g0, x_gP, x_pI, x_pZ, x_pL, x_pP, x_al, x_as, x_all, x_asl, x_alr, x_len, x_cpy, x_m2, x_m1, x_m2l, x_m1l, x_call, x_cv, x_ri, x_rz, x_rl, x_rv, zg, zset, zbef, zlong, zcat, cond_true, cond_false, List.take, List.drop, rv1, rv2, rv3, rv4, rv5, rv6, rv7, sm0, sm1, bl0, bl1, bl2, bl3, bl4, bl5, bl6, bl7, bl8, List.nil_append, List.cons_append, List.length_cons, List.length_nil, Nat.reduceBEq, Nat.reduceAdd, Nat.reduceSub, ta, tb, tn0, tn1, tn2, tn3, tn4, tn5, tn6, tn7, tn8, tn9, tn10, tn11, tn12]
              obtain ⟨J4, e4, x4, k4⟩ := zsI_ex J3 L P 12 0 8 2
              rw [e4]
              dsimp only
              rw [x4, k4 12 0 10 (by decide), at4, k4 12 0 7 (by decide), nx4]
              have f5 : frK I J4 := fun a b c y => (k4 a b c (by omega)).trans (f4 a b c y)
              refine ⟨fun _ => p_packed (h.k f5) hr hr2 hl ?_, fun y => absurd rfl y⟩
              dsimp only [x_int, x_lng, x_ild, x_lld, x_ald, x_ist, x_ast, x_lst, x_inc, x_ii, x_id, x_i, x_ll, x_ld, x_l, x_cmp, x_i2l, x_l2i, x_if, x_ic, x_dup, x_pop, x_dup2, x_gI, x_gL, x_gR, x_g1, x_g0, x_gP, x_pI, x_pZ, x_pL, x_pP, x_al, x_as, x_all, x_asl, x_alr, x_len, x_cpy, x_m2, x_m1, x_m2l, x_m1l, x_call, x_cv, x_ri, x_rz, x_rl, x_rv, zg, zset, zbef, zlong, zcat, cond_true, cond_false, List.take, List.drop, rv1, rv2, rv3, rv4, rv5, rv6, rv7, sm0, sm1, bl0, bl1, bl2, bl3, bl4, bl5, bl6, bl7, bl8, List.nil_append, List.cons_append, List.length_cons, List.length_nil, Nat.reduceBEq, Nat.reduceAdd, Nat.reduceSub, ta, tb, tn0, tn1, tn2, tn3, tn4, tn5, tn6, tn7, tn8, tn9, tn10, tn11, tn12, bX12_token_281]
              obtain ⟨J5, e5, x5, k5⟩ := zsI_ex J4 L P 12 0 9 (nI (pkN B q (r - q)))
              rw [e5]
              refine hK J5 (fun a b c y => (k5 a b c (by omega)).trans (f5 a b c y)) ⟨?_, ?_, ?_⟩
              · rw [k5 _ _ _ (by decide), k4 _ _ _ (by decide)]; exact nx4
              · rw [k5 _ _ _ (by decide), k4 _ _ _ (by decide)]; exact at4
              · rw [k5 12 0 8 (by decide), x4, x5]
                exact Or.inr (Or.inr (Or.inl ⟨rfl, rfl, (pkC_N _ y hl).symm⟩))
            · have y : ¬ nI (r - q) ≤ nI 6 := y
              rw [n_le (by omega) (by omega)] at y
              rw [if_neg y]
              exact Or.inr (Or.inr (Or.inr (Or.inr (Or.inr (Or.inr ⟨rfl, Or.inl rfl⟩)))))
      | false =>
        rw [if_neg (by rw [el]; decide)] at hK
        refine ⟨fun _ => ?_, fun y => absurd rfl y⟩
        rw [nx2]
        refine p_isDigit12 h2 (by omega) ?_
        rw [decide_eq_true z, Bool.true_and]
        dsimp only [x_int, x_lng, x_ild, x_lld, x_ald, x_ist, x_ast, x_lst, x_inc, x_ii, x_id, x_i, x_ll, x_ld, x_l, x_cmp, x_i2l, x_l2i, x_if, x_ic, x_dup, x_pop, x_dup2, x_gI, x_gL, x_gR, x_g1, x_g0, x_gP, x_pI, x_pZ, x_pL, x_pP, x_al, x_as, x_all, x_asl, x_alr, x_len, x_cpy, x_m2, x_m1, x_m2l, x_m1l, x_call, x_cv, x_ri, x_rz, x_rl, x_rv, zg, zset, zbef, zlong, zcat, cond_true, cond_false, List.take, List.drop, rv1, rv2, rv3, rv4, rv5, rv6, rv7, sm0, sm1, bl0, bl1, bl2, bl3, bl4, bl5, bl6, bl7, bl8, List.nil_append, List.cons_append, List.length_cons, List.length_nil, Nat.reduceBEq, Nat.reduceAdd, Nat.reduceSub, ta, tb, tn0, tn1, tn2, tn3, tn4, tn5, tn6, tn7, tn8, tn9, tn10, tn11, tn12]
        cases ed : isD (B q) with
        | true =>
          rw [if_pos ed] at hK
          refine ⟨fun y => absurd y (by decide), fun _ => ?_⟩
          obtain ⟨J2, e2, x2, k2⟩ := zsI_ex J1 L P 12 0 8 3
          rw [e2]
          obtain ⟨J3, e3, x3, k3⟩ := zsI_ex J2 L P 12 0 9 0
          rw [e3]
          have all := rn_all (P := fun q => isD (B q)) (n := n) _ q rfl (by omega)
          refine zmea (fun k Z M => ∃ (I3 : zI) (j : Nat), Z = [some refR] ∧ M = (I3, L, P) ∧ k = n - (q + j) ∧ q + j ≤ n ∧ frK I I3 ∧ I3 12 0 7 = nI (q + j) ∧ I3 12 0 10 = nI q ∧ I3 12 0 8 = 3 ∧ I3 12 0 9 = nI (nuR B q j) ∧ rn (fun q => isD (B q)) n q = rn (fun q => isD (B q)) n (q + j)) ?_ (n - q) ⟨J3, 0, rfl, rfl, rfl, by omega, fun a b c y => ((k3 a b c (by omega)).trans (k2 a b c (by omega))).trans (f2 a b c y), ?_, ?_, ?_, x3, rfl⟩
          · rintro k Z M ⟨I3, j, rfl, rfl, hk3, hr2, f3, b1, b2, b4, b5, b3⟩ self3 hself3
            have h3 := h.k f3
            have jq : q + j ≤ rn (fun q => isD (B q)) n q := by
              rw [b3]; exact (rn_b (P := fun q => isD (B q)) hr2).1
            have nr := nu_rel (B := B) (s := q) j (fun i hi => all (q + i) (by omega) (by omega))
            dsimp only [x_int, x_lng, x_ild, x_lld, x_ald, x_ist, x_ast, x_lst, x_inc, x_ii, x_id, x_i, x_ll, x_ld, x_l, x_cmp, x_i2l, x_l2i, x_if, x_ic, x_dup, x_pop, x_dup2, x_gI, x_gL, x_gR, x_g1, x_g0, x_gP, x_pI, x_pZ, x_pL, x_pP, x_al, x_as, x_all, x_asl, x_alr, x_len, x_cpy, x_m2, x_m1, x_m2l, x_m1l, x_call, x_cv, x_ri, x_rz, x_rl, x_rv, zg, zset, zbef, zlong, zcat, cond_true, cond_false, List.take, List.drop, rv1, rv2, rv3, rv4, rv5, rv6, rv7, sm0, sm1, bl0, bl1, bl2, bl3, bl4, bl5, bl6, bl7, bl8, List.nil_append, List.cons_append, List.length_cons, List.length_nil, Nat.reduceBEq, Nat.reduceAdd, Nat.reduceSub, ta, tb, tn0, tn1, tn2, tn3, tn4, tn5, tn6, tn7, tn8, tn9, tn10, tn11, tn12]
            rw [b1]
            refine p_isDigit12 h3 (by omega) ?_
            dsimp only [x_int, x_lng, x_ild, x_lld, x_ald, x_ist, x_ast, x_lst, x_inc, x_ii, x_id, x_i, x_ll, x_ld, x_l, x_cmp, x_i2l, x_l2i, x_if, x_ic, x_dup, x_pop, x_dup2, x_gI, x_gL, x_gR, x_g1, x_g0, x_gP, x_pI, x_pZ, x_pL, x_pP, x_al, x_as, x_all, x_asl, x_alr, x_len, x_cpy, x_m2, x_m1, x_m2l, x_m1l, x_call, x_cv, x_ri, x_rz, x_rl, x_rv, zg, zset, zbef, zlong, zcat, cond_true, cond_false, List.take, List.drop, rv1, rv2, rv3, rv4, rv5, rv6, rv7, sm0, sm1, bl0, bl1, bl2, bl3, bl4, bl5, bl6, bl7, bl8, List.nil_append, List.cons_append, List.length_cons, List.length_nil, Nat.reduceBEq, Nat.reduceAdd, Nat.reduceSub, ta, tb, tn0, tn1, tn2, tn3, tn4, tn5, tn6, tn7, tn8, tn9, tn10, tn11, tn12, bX12_token_281]
            by_cases c : q + j < n ∧ isD (B (q + j)) = true
            · rw [decide_eq_true c.1, c.2]
              refine ⟨fun y => absurd y (by decide), fun _ => ?_⟩
              have d : 48 ≤ B (q + j) ∧ B (q + j) ≤ 57 := of_decide_eq_true c.2
              rw [b5]
              have st : nuR B q (j + 1) = if nuR B q j ≤ 99999 then 10 * nuR B q j + (B (q + j) - 48) else nuR B q j := rfl
              have fin : ∀ v : Nat, v = nuR B q (j + 1) → bX12_token_261 K self3 [some refR] [.inl (nI v), refR] (I3, L, P) := fun v hv => by
                unfold bX12_token_261
                dsimp only [x_int, x_lng, x_ild, x_lld, x_ald, x_ist, x_ast, x_lst, x_inc, x_ii, x_id, x_i, x_ll, x_ld, x_l, x_cmp, x_i2l, x_l2i, x_if, x_ic, x_dup, x_pop, x_dup2, x_gI, x_gL, x_gR, x_g1, x_g0, x_gP, x_pI, x_pZ, x_pL, x_pP, x_al, x_as, x_all, x_asl, x_alr, x_len, x_cpy, x_m2, x_m1, x_m2l, x_m1l, x_call, x_cv, x_ri, x_rz, x_rl, x_rv, zg, zset, zbef, zlong, zcat, cond_true, cond_false, List.take, List.drop, rv1, rv2, rv3, rv4, rv5, rv6, rv7, sm0, sm1, bl0, bl1, bl2, bl3, bl4, bl5, bl6, bl7, bl8, List.nil_append, List.cons_append, List.length_cons, List.length_nil, Nat.reduceBEq, Nat.reduceAdd, Nat.reduceSub, ta, tb, tn0, tn1, tn2, tn3, tn4, tn5, tn6, tn7, tn8, tn9, tn10, tn11, tn12]
                obtain ⟨J4, e4, x4, k4⟩ := zsI_ex I3 L P 12 0 9 (nI v)
                rw [e4]
                dsimp only
                rw [k4 12 0 7 (by decide), b1, n_succ]
                obtain ⟨J5, e5, x5, k5⟩ := zsI_ex J4 L P 12 0 7 (nI (q + j + 1))
                rw [e5]
                refine hself3 (n - (q + (j + 1))) _ _ (by omega) ⟨J5, j + 1, rfl, rfl, rfl, by omega, fun a b c y => ((k5 a b c (by omega)).trans (k4 a b c (by omega))).trans (f3 a b c y), x5, ?_, ?_, ?_, by rw [b3, rn_go c.1 c.2]; rfl⟩
                · rw [k5 _ _ _ (by decide), k4 _ _ _ (by decide)]; exact b2
                · rw [k5 _ _ _ (by decide), k4 _ _ _ (by decide)]; exact b4
                · rw [k5 _ _ _ (by decide), x4, hv]
              dsimp only [zk_51, zl_51, cond_true]
              rw [b1, n_cl (n := q + j) (by omega), (h3.2.2.1 (q + j) c.1).1]
              refine ⟨fun y => ⟨n_zin (by omega) (by decide), ?_⟩, fun y => fin _ ?_⟩
              · have y : nI (nuR B q j) ≤ nI 99999 := y
                rw [n_le (by omega) (by omega)] at y
                rw [show (10 : Int32) = nI 10 from rfl, show (48 : Int32) = nI 48 from rfl, n_mul, n_add, pk_sub (by omega)]
                refine fin _ ?_
                rw [st, if_pos y]; omega
              · have y : ¬ nI (nuR B q j) ≤ nI 99999 := y
                rw [n_le (by omega) (by omega)] at y
                rw [st, if_neg y]
            · have c' : (decide (q + j < n) && isD (B (q + j))) = false := by
                cases y : (decide (q + j < n) && isD (B (q + j))) with
                | false => rfl
                | true =>
                  simp only [Bool.and_eq_true, decide_eq_true_eq] at y
                  exact absurd y c
              rw [c']
              rw [rn_stop (p := q + j) c] at b3
              rw [b3, show q + j - q = j by omega] at hK
              refine ⟨fun _ => hK I3 f3 ⟨b1, b2, ?_⟩, fun y => absurd rfl y⟩
              rw [b4, b5]
              exact Or.inr (Or.inr (Or.inr (Or.inl ⟨rfl, rfl, nuC B q j, nuR B q j, rfl, rfl, nr.1, nuC_le B q j, nr.2⟩)))
          · rw [k3 _ _ _ (by decide), k2 _ _ _ (by decide)]; exact nx2
          · rw [k3 _ _ _ (by decide), k2 _ _ _ (by decide)]; exact x1
          · rw [k3 _ _ _ (by decide)]; exact x2
        | false =>
          rw [if_neg (by rw [ed]; decide)] at hK
          refine ⟨fun _ => p_signToken h2 z nx2 (fun I3 f3 c1 c2 c3 => ?_), fun y => absurd rfl y⟩
          dsimp only [x_int, x_lng, x_ild, x_lld, x_ald, x_ist, x_ast, x_lst, x_inc, x_ii, x_id, x_i, x_ll, x_ld, x_l, x_cmp, x_i2l, x_l2i, x_if, x_ic, x_dup, x_pop, x_dup2, x_gI, x_gL, x_gR, x_g1, x_g0, x_gP, x_pI, x_pZ, x_pL, x_pP, x_al, x_as, x_all, x_asl, x_alr, x_len, x_cpy, x_m2, x_m1, x_m2l, x_m1l, x_call, x_cv, x_ri, x_rz, x_rl, x_rv, zg, zset, zbef, zlong, zcat, cond_true, cond_false, List.take, List.drop, rv1, rv2, rv3, rv4, rv5, rv6, rv7, sm0, sm1, bl0, bl1, bl2, bl3, bl4, bl5, bl6, bl7, bl8, List.nil_append, List.cons_append, List.length_cons, List.length_nil, Nat.reduceBEq, Nat.reduceAdd, Nat.reduceSub, ta, tb, tn0, tn1, tn2, tn3, tn4, tn5, tn6, tn7, tn8, tn9, tn10, tn11, tn12, bX12_token_281]
          have hK := hK I3 (f2.tr f3)
          unfold sgT at c1 c3
          have c2 := c2.trans x1
          by_cases w1 : B q = 60 ∧ sgB B n (q + 1) = 62
          · rw [if_pos w1] at hK c1 c3
            exact hK ⟨c1, c2, c3⟩
          · rw [if_neg w1] at hK c1 c3
            by_cases w2 : (B q = 60 ∨ B q = 62) ∧ sgB B n (q + 1) = 61
            · rw [if_pos w2] at hK c1 c3
              exact hK ⟨c1, c2, c3⟩
            · rw [if_neg w2] at hK c1 c3
              exact hK ⟨c1, c2, c3⟩
  dsimp only [x_int, x_lng, x_ild, x_lld, x_ald, x_ist, x_ast, x_lst, x_inc, x_ii, x_id, x_i, x_ll, x_ld, x_l, x_cmp, x_i2l, x_l2i, x_if, x_ic, x_dup, x_pop, x_dup2, x_gI, x_gL, x_gR, x_g1, x_g0, x_gP, x_pI, x_pZ, x_pL, x_pP, x_al, x_as, x_all, x_asl, x_alr, x_len, x_cpy, x_m2, x_m1, x_m2l, x_m1l, x_call, x_cv, x_ri, x_rz, x_rl, x_rv, zg, zset, zbef, zlong, zcat, cond_true, cond_false, List.take, List.drop, rv1, rv2, rv3, rv4, rv5, rv6, rv7, sm0, sm1, bl0, bl1, bl2, bl3, bl4, bl5, bl6, bl7, bl8, List.nil_append, List.cons_append, List.length_cons, List.length_nil, Nat.reduceBEq, Nat.reduceAdd, Nat.reduceSub, ta, tb, tn0, tn1, tn2, tn3, tn4, tn5, tn6, tn7, tn8, tn9, tn10, tn11, tn12, zk_51, zl_51]
  rw [a1, h'.1]
  refine ⟨fun z => out ?_, fun z => ?_⟩
  · have z : nI n ≤ nI q := z
    rw [n_le (by omega) (by omega)] at z
    exact rn_stop (by omega)
  · have z : ¬ nI n ≤ nI q := z
    rw [n_le (by omega) (by omega)] at z
    have z : q < n := by omega
    obtain ⟨t1, t2⟩ := h'.2.2.1 q z
    have e10 : (nI (B q) = 10) ↔ B q = 10 := n_eq (b := 10) (by omega) (by omega)
    have e32 : (nI (B q) = 32) ↔ B q = 32 := n_eq (b := 32) (by omega) (by omega)
    have go : isW (B q) = true → bX12_token_39 K self [some refR] [] (I', L, P) := fun w => by
      unfold bX12_token_39
      dsimp only [x_int, x_lng, x_ild, x_lld, x_ald, x_ist, x_ast, x_lst, x_inc, x_ii, x_id, x_i, x_ll, x_ld, x_l, x_cmp, x_i2l, x_l2i, x_if, x_ic, x_dup, x_pop, x_dup2, x_gI, x_gL, x_gR, x_g1, x_g0, x_gP, x_pI, x_pZ, x_pL, x_pP, x_al, x_as, x_all, x_asl, x_alr, x_len, x_cpy, x_m2, x_m1, x_m2l, x_m1l, x_call, x_cv, x_ri, x_rz, x_rl, x_rv, zg, zset, zbef, zlong, zcat, cond_true, cond_false, List.take, List.drop, rv1, rv2, rv3, rv4, rv5, rv6, rv7, sm0, sm1, bl0, bl1, bl2, bl3, bl4, bl5, bl6, bl7, bl8, List.nil_append, List.cons_append, List.length_cons, List.length_nil, Nat.reduceBEq, Nat.reduceAdd, Nat.reduceSub, ta, tb, tn0, tn1, tn2, tn3, tn4, tn5, tn6, tn7, tn8, tn9, tn10, tn11, tn12]
      rw [a1, n_succ]
      obtain ⟨J1, e1, x1, k1⟩ := zsI_ex I' L P 12 0 7 (nI (q + 1))
      rw [e1]
      exact hself (n - (q + 1)) _ _ (by omega) ⟨J1, q + 1, rfl, rfl, rfl, by omega, fun a b c y => (k1 a b c (by omega)).trans (f1 a b c y), x1, by rw [a4, rn_go z w]⟩
    rw [n_cl (n := q) (by omega), t1]
    refine ⟨n_zin (by omega) (by decide), fun y => go (decide_eq_true (Or.inl (e10.mp y))), fun y => ⟨n_zin (by omega) (by decide), fun w => go (decide_eq_true (Or.inr (e32.mp w))), fun w => out (rn_stop (fun u => ?_))⟩⟩
    have := of_decide_eq_true u.2
    exact this.elim (fun v => y (e10.mpr v)) (fun v => w (e32.mpr v))
