theorem aFade_skip {T : aT} {S : aS} {n : Nat} (h : ¬ (¬ S 5 n = 0 ∧ ¬ S 7 n = 1 ∧ ¬ S 9 0 - S 4 n ≤ fad T S (hnd T n) (wod S n))) : aFade T S (n + 1) = aFade T S n := by
  funext f i
  unfold aFade
  by_cases e : i = n
  · subst e
    rw [if_neg (fun q => h q.2.2), if_neg (fun q => absurd q.2.1 (by omega))]
  · congr 1
    simp only [eq_iff_iff]
    constructor
    · rintro ⟨a, b, c⟩; exact ⟨a, by omega, c⟩
    · rintro ⟨a, b, c⟩; exact ⟨a, by omega, c⟩
theorem aFade_0 {T : aT} {S : aS} : aFade T S 0 = S := by
  funext f i
  simp [aFade]
theorem p_fadeAll {K : zQ} {I : zI} {L : zJ} {P : zP} {j t : Nat} {T : aT} {S : aS} (ht : P 8 j 0 = t) (hT : CT I t T) (hS : CS I j T S) (wT : WT T) (wS : WS T S)
    (hK : ∀ (I' : zI) (L' : zJ), zeL2 L L' → (∀ a b c, ¬ (a = 8 ∧ b = j) → I' a b c = I a b c) → CS I' j T (aFade T S (T.1 2)) → K [] (I', L', P)) : mX8_fadeAll K [.inr (.inr (8, j))] (I, L, P) := by
  have h6 := hT.h6
  have w4 := hT.w4
  have r10 := hT.r10
  have hp : P 8 j 0 < 2 := by rw [ht]; exact hT.1
  show bX8_fadeAll_2 K [some (.inr (.inr (8, j))), some (.inl 0), none] [] (I, L, P)
  refine zinv (T.1 2) (fun n Z M => ∃ (I' : zI) (L' : zJ) (z2 : Option zV), Z = [some (.inr (.inr (8, j))), some (.inl (nI n)), z2] ∧ M = (I', L', P) ∧ zeL2 L L' ∧ (∀ a b c, ¬ (a = 8 ∧ b = j) → I' a b c = I a b c) ∧ CS I' j T (aFade T S n)) ?_ ?_ ⟨I, L, none, rfl, rfl, fun _ _ _ _ _ => rfl, fun _ _ _ _ => rfl, by rw [aFade_0]; exact hS⟩
  · rintro n Z M hn ⟨I', L', z2, rfl, rfl, hL, hI, hS'⟩ self hself
    have hT' : CT I' t T := hT.fr (fun a b c q => hI a b c (fun e => by rw [e.1] at q; exact absurd q (by decide)))
    obtain ⟨hh, eh⟩ := wT.h h6 hn
    obtain ⟨hw, ew⟩ := wS.w w4 hn
    have zn : zin (nI n) 10 := n_zin (by omega) (by decide)
    obtain ⟨c1, c2, c3, c4, c5⟩ := hS'.2.2.1 n hn
    have skip : ∀ (L2 : zJ) (z2 : Option zV), zeL2 L L2 → ¬ (¬ S 5 n = 0 ∧ ¬ S 7 n = 1 ∧ ¬ S 9 0 - S 4 n ≤ fad T S (hnd T n) (wod S n)) → self [some (.inr (.inr (8, j))), some (.inl (nI n + 1)), z2] [] (I', L2, P) := fun L2 z2 h1 h2 => by
      rw [n_succ]
      exact hself _ _ ⟨I', L2, z2, rfl, rfl, h1, hI, by rw [aFade_skip h2]; exact hS'⟩
    dsimp only [x_int, x_lng, x_ild, x_lld, x_ald, x_ist, x_ast, x_lst, x_inc, x_ii, x_id, x_i, x_ll, x_ld, x_l, x_cmp, x_i2l, x_l2i, x_if, x_ic, x_dup, x_pop, x_dup2, x_gI, x_gL, x_gR, x_g1, x_g0, x_gP, x_pI, x_pZ, x_pL, x_pP, x_al, x_as, x_all, x_asl, x_alr, x_len, x_cpy, x_m2, x_m1, x_m2l, x_m1l, x_call, x_cv, x_ri, x_rz, x_rl, x_rv, zg, zset, zbef, zlong, zcat, cond_true, cond_false, List.take, List.drop, rv1, rv2, rv3, rv4, rv5, rv6, rv7, sm0, sm1, bl0, bl1, bl2, bl3, bl4, bl5, bl6, bl7, bl8, List.nil_append, List.cons_append, List.length_cons, List.length_nil, Nat.reduceBEq, Nat.reduceAdd, Nat.reduceSub, ta, tb, tn0, tn1, tn2, tn3, tn4, tn5, tn6, tn7, tn8, tn9, tn10, tn11, tn12, zk_38, zl_38, zk_37, zl_37, bX8_fadeAll_34, bX8_fadeAll_35, bX8_fadeAll_71]
    rw [ht, n_cl (n := n) (by omega), c3, aFade_ne (by decide), hT'.2.1.2.2]
    refine ⟨hT.1, fun c => absurd c (lt_go rfl (by omega) hn), fun _ => ⟨zn, fun c => ?_, fun c => ?_⟩⟩
    · refine ⟨fun _ => skip L' _ hL (fun q => q.1 c), fun q => absurd rfl q⟩
    · refine p_isFaded r10 hS' hn ?_
      have e7 : aFade T S n 7 n = S 7 n := by
        unfold aFade
        rw [if_neg (fun q => absurd q.2.1 (by omega))]
      rw [e7]
      by_cases q7 : S 7 n = 1
      · rw [if_pos q7]
        dsimp only [x_int, x_lng, x_ild, x_lld, x_ald, x_ist, x_ast, x_lst, x_inc, x_ii, x_id, x_i, x_ll, x_ld, x_l, x_cmp, x_i2l, x_l2i, x_if, x_ic, x_dup, x_pop, x_dup2, x_gI, x_gL, x_gR, x_g1, x_g0, x_gP, x_pI, x_pZ, x_pL, x_pP, x_al, x_as, x_all, x_asl, x_alr, x_len, x_cpy, x_m2, x_m1, x_m2l, x_m1l, x_call, x_cv, x_ri, x_rz, x_rl, x_rv, zg, zset, zbef, zlong, zcat, cond_true, cond_false, List.take, List.drop, rv1, rv2, rv3, rv4, rv5, rv6, rv7, sm0, sm1, bl0, bl1, bl2, bl3, bl4, bl5, bl6, bl7, bl8, List.nil_append, List.cons_append, List.length_cons, List.length_nil, Nat.reduceBEq, Nat.reduceAdd, Nat.reduceSub, ta, tb, tn0, tn1, tn2, tn3, tn4, tn5, tn6, tn7, tn8, tn9, tn10, tn11, tn12, zk_38, zl_38, zk_37, zl_37, bX8_fadeAll_34, bX8_fadeAll_35, bX8_fadeAll_71]
        refine ⟨fun q => absurd q (by decide), fun _ => ⟨fun _ => skip L' _ hL (fun q => q.2.1 q7), fun q => absurd rfl q⟩⟩
      · rw [if_neg q7]
        dsimp only [x_int, x_lng, x_ild, x_lld, x_ald, x_ist, x_ast, x_lst, x_inc, x_ii, x_id, x_i, x_ll, x_ld, x_l, x_cmp, x_i2l, x_l2i, x_if, x_ic, x_dup, x_pop, x_dup2, x_gI, x_gL, x_gR, x_g1, x_g0, x_gP, x_pI, x_pZ, x_pL, x_pP, x_al, x_as, x_all, x_asl, x_alr, x_len, x_cpy, x_m2, x_m1, x_m2l, x_m1l, x_call, x_cv, x_ri, x_rz, x_rl, x_rv, zg, zset, zbef, zlong, zcat, cond_true, cond_false, List.take, List.drop, rv1, rv2, rv3, rv4, rv5, rv6, rv7, sm0, sm1, bl0, bl1, bl2, bl3, bl4, bl5, bl6, bl7, bl8, List.nil_append, List.cons_append, List.length_cons, List.length_nil, Nat.reduceBEq, Nat.reduceAdd, Nat.reduceSub, ta, tb, tn0, tn1, tn2, tn3, tn4, tn5, tn6, tn7, tn8, tn9, tn10, tn11, tn12, zk_38, zl_38, zk_37, zl_37, bX8_fadeAll_34, bX8_fadeAll_35, bX8_fadeAll_71]
        refine ⟨fun _ => ⟨fun q => absurd q (by decide), fun _ => ?_⟩, fun q => absurd rfl q⟩
        refine ⟨zn, p_fade ht hT' hS' hn hh hw eh (by rw [aFade_ne (by decide)]; exact ew) (fun L2 hL2 => ?_)⟩
        have hL3 : zeL2 L L2 := fun a b c q1 q2 => (hL2 a b c q1 q2).trans (hL a b c q1 q2)
        rw [fad_fade]
        dsimp only [x_int, x_lng, x_ild, x_lld, x_ald, x_ist, x_ast, x_lst, x_inc, x_ii, x_id, x_i, x_ll, x_ld, x_l, x_cmp, x_i2l, x_l2i, x_if, x_ic, x_dup, x_pop, x_dup2, x_gI, x_gL, x_gR, x_g1, x_g0, x_gP, x_pI, x_pZ, x_pL, x_pP, x_al, x_as, x_all, x_asl, x_alr, x_len, x_cpy, x_m2, x_m1, x_m2l, x_m1l, x_call, x_cv, x_ri, x_rz, x_rl, x_rv, zg, zset, zbef, zlong, zcat, cond_true, cond_false, List.take, List.drop, rv1, rv2, rv3, rv4, rv5, rv6, rv7, sm0, sm1, bl0, bl1, bl2, bl3, bl4, bl5, bl6, bl7, bl8, List.nil_append, List.cons_append, List.length_cons, List.length_nil, Nat.reduceBEq, Nat.reduceAdd, Nat.reduceSub, ta, tb, tn0, tn1, tn2, tn3, tn4, tn5, tn6, tn7, tn8, tn9, tn10, tn11, tn12, bX8_fadeAll_71]
        have c2' : I' 37 j n = S 4 n := c2.trans (aFade_ne (by decide))
        have c9' : I' 8 j 13 = S 9 0 := hS'.2.2.2.1.trans (aFade_ne (by decide))
        rw [c2', c9']
        refine ⟨fun q => skip L2 _ hL3 (fun z => z.2.2 q), fun q => ?_⟩
        have hbit := bsum_bit (aFade T S n 7) (T.1 2) n
        have hl : bsum (aFade T S n 7) (T.1 2) < 1024 := Nat.lt_of_lt_of_le (bsum_lt _ _) (Nat.pow_le_pow_right (by decide) r10)
        rw [hS'.2.2.2.2.2.2.2, bits2 _ hl n (by omega) (by rw [hbit, e7]; simp [q7]), n_succ]
        refine hself _ _ ⟨_, L2, _, rfl, rfl, hL3, fun a b c q1 => ?_, hS'.faded (fun a c q1 q2 => ?_) (fun f i hf => ?_) ?_⟩
        · show (if a = 8 ∧ b = j ∧ c = 17 then _ else I' a b c) = _
          rw [if_neg (fun e => q1 ⟨e.1, e.2.1⟩)]; exact hI a b c q1
        · show (if a = 8 ∧ j = j ∧ c = 17 then _ else I' a j c) = _
          rw [if_neg (fun e => q2 ⟨e.1, e.2.2⟩)]
        · rw [aFade_ne hf, aFade_ne hf]
        · show (if 8 = 8 ∧ j = j ∧ 17 = 17 then _ else I' 8 j 17) = _
          rw [if_pos ⟨rfl, rfl, rfl⟩, bsum_set (f := aFade T S n 7) (g := aFade T S (n + 1) 7) (r := n) (by rw [e7]; exact q7) ?_ ?_ (T.1 2), if_pos hn]
          · unfold aFade
            rw [if_pos ⟨rfl, by omega, c, q7, q⟩]
          · intro i hi
            unfold aFade
            congr 1
            simp only [eq_iff_iff]
            constructor
            · rintro ⟨a, b, c⟩; exact ⟨a, by omega, c⟩
            · rintro ⟨a, b, c⟩; exact ⟨a, by omega, c⟩
  · rintro Z M ⟨I', L', z2, rfl, rfl, hL, hI, hS'⟩ self
    have hT' : CT I' t T := hT.fr (fun a b c q => hI a b c (fun e => by rw [e.1] at q; exact absurd q (by decide)))
    dsimp only [x_int, x_lng, x_ild, x_lld, x_ald, x_ist, x_ast, x_lst, x_inc, x_ii, x_id, x_i, x_ll, x_ld, x_l, x_cmp, x_i2l, x_l2i, x_if, x_ic, x_dup, x_pop, x_dup2, x_gI, x_gL, x_gR, x_g1, x_g0, x_gP, x_pI, x_pZ, x_pL, x_pP, x_al, x_as, x_all, x_asl, x_alr, x_len, x_cpy, x_m2, x_m1, x_m2l, x_m1l, x_call, x_cv, x_ri, x_rz, x_rl, x_rv, zg, zset, zbef, zlong, zcat, cond_true, cond_false, List.take, List.drop, rv1, rv2, rv3, rv4, rv5, rv6, rv7, sm0, sm1, bl0, bl1, bl2, bl3, bl4, bl5, bl6, bl7, bl8, List.nil_append, List.cons_append, List.length_cons, List.length_nil, Nat.reduceBEq, Nat.reduceAdd, Nat.reduceSub, ta, tb, tn0, tn1, tn2, tn3, tn4, tn5, tn6, tn7, tn8, tn9, tn10, tn11, tn12]
    rw [ht]
    exact ⟨hT.1, fun _ => hK I' L' hL hI hS', fun c => absurd c (lt_out hT'.2.1.2.2)⟩
