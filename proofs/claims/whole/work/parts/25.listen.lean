def su (S : aS) (f i : Nat) (v : Int32) : aS := fun a b => if a = f ∧ b = i then v else S a b
theorem shk_num {T : aT} {S : aS} {v : Int32} {h w k : Nat} : shk T (su S 10 0 v) h w k = shk T S h w k := by
  simp [shk, anm, su]
theorem rch_num {T : aT} {S : aS} {v : Int32} {h w : Nat} {f : Int32} : rch T (su S 10 0 v) h w f = rch T S h w f := by
  simp [rch, anm, su]
theorem CS.num {M M' : zI} {j : Nat} {T : aT} {S : aS} {v : Int32} (h : CS M j T S) (e : ∀ a c, csK a c = true → ¬ (a = 8 ∧ c = 14) → M' a j c = M a j c) (ev : M' 8 j 14 = v) : CS M' j T (su S 10 0 v) := by
  have e31 : ∀ c, M' 31 j c = M 31 j c := fun c => e 31 c rfl (by simp)
  have e32 : ∀ c, M' 32 j c = M 32 j c := fun c => e 32 c rfl (by simp)
  have e33 : ∀ c, M' 33 j c = M 33 j c := fun c => e 33 c rfl (by simp)
  have e34 : ∀ c, M' 34 j c = M 34 j c := fun c => e 34 c rfl (by simp)
  have e35 : ∀ c, M' 35 j c = M 35 j c := fun c => e 35 c rfl (by simp)
  have e36 : ∀ c, M' 36 j c = M 36 j c := fun c => e 36 c rfl (by simp)
  have e37 : ∀ c, M' 37 j c = M 37 j c := fun c => e 37 c rfl (by simp)
  have e38 : ∀ c, M' 38 j c = M 38 j c := fun c => e 38 c rfl (by simp)
  have e39 : ∀ c, M' 39 j c = M 39 j c := fun c => e 39 c rfl (by simp)
  have e40 : ∀ c, M' 40 j c = M 40 j c := fun c => e 40 c rfl (by simp)
  have f1 : M' 8 j 13 = M 8 j 13 := e 8 _ rfl (by simp)
  have f3 : M' 8 j 15 = M 8 j 15 := e 8 _ rfl (by simp)
  have f4 : M' 8 j 16 = M 8 j 16 := e 8 _ rfl (by simp)
  have f5 : M' 8 j 17 = M 8 j 17 := e 8 _ rfl (by simp)
  obtain ⟨a1, a2, a3, a4, a5, a6, a7, a8⟩ := h
  have g : ∀ f i, ¬ f = 10 → su S 10 0 v f i = S f i := fun f i q => by simp [su, q]
  have g8 : (su S 10 0 v) 8 = S 8 := by funext i; exact g 8 i (by decide)
  have g7 : (su S 10 0 v) 7 = S 7 := by funext i; exact g 7 i (by decide)
  refine ⟨fun x hx => ?_, fun x hx => ?_, fun x hx => ?_, ?_, ?_, ?_, ?_, ?_⟩
  · rw [e31, e32, e33, g 0 x (by decide), g 1 x (by decide), g 11 x (by decide)]; exact a1 x hx
  · rw [e34, e35, g 12 x (by decide), g 2 x (by decide)]; exact a2 x hx
  · rw [e36, e37, e38, e39, e40, g 3 x (by decide), g 4 x (by decide), g 5 x (by decide), g 6 x (by decide), g8]; exact a3 x hx
  · rw [f1, g 9 0 (by decide)]; exact a4
  · rw [ev]; simp [su]
  · rw [f3, g 13 0 (by decide)]; exact a6
  · rw [f4, g 14 0 (by decide)]; exact a7
  · rw [f5, g7]; exact a8
theorem dr1_b (dr : Bool) (e n : Int32) : (dr1 dr e n).2 = 0 ∨ (dr1 dr e n).2 = 1 := by
  unfold dr1
  repeat' split
  all_goals first | exact Or.inl rfl | exact Or.inr rfl
theorem p_listen {K : zQ} {I : zI} {L : zJ} {P : zP} {j t : Nat} {T : aT} {S : aS} {h w : Nat} {dI : Int32} {dr : Bool} (hdr : (dI = 0 ∧ dr = false) ∨ (¬ dI = 0 ∧ dr = true)) (ht : P 8 j 0 = t) (hT : CT I t T) (hS : CS I j T S) (hh : h < T.1 0) (hw : w < T.1 1)
    (hK : ∀ (I' : zI) (L' : zJ), zeL2 L L' → (∀ a b c, ¬ (a = 41 ∧ b = j) → ¬ (a = 8 ∧ b = j ∧ c = 14) → I' a b c = I a b c) → (∀ k, k < 6 → I' 41 j k = T.2.1 3 (6 * h + k) + lgr dr (shk T S h w) (S 10 0) k) → I' 8 j 14 = nks dr (shk T S h w) (S 10 0) 6 → K [] (I', L', P)) : mX8_listen K [.inr (.inr (8, j)), .inl (nI h), .inl (nI w), .inl dI] (I, L, P) := by
  have h6 := hT.h6
  have w4 := hT.w4
  have zh : zin (nI h) 6 := n_zin (by omega) (by decide)
  show bX8_listen_3 K [some (.inr (.inr (8, j))), some (.inl (nI h)), some (.inl (nI w)), some (.inl dI), some (.inl 0), none, none] [] (I, L, P)
  refine zinv 6 (fun k Z M => ∃ (I' : zI) (L' : zJ) (z5 z6 : Option zV), Z = [some (.inr (.inr (8, j))), some (.inl (nI h)), some (.inl (nI w)), some (.inl dI), some (.inl (nI k)), z5, z6] ∧ M = (I', L', P) ∧ zeL2 L L' ∧ (∀ a b c, ¬ (a = 41 ∧ b = j) → ¬ (a = 8 ∧ b = j ∧ c = 14) → I' a b c = I a b c) ∧ (∀ q, q < k → I' 41 j q = T.2.1 3 (6 * h + q) + lgr dr (shk T S h w) (S 10 0) q) ∧ I' 8 j 14 = nks dr (shk T S h w) (S 10 0) k) ?_ ?_ ⟨I, L, none, none, rfl, rfl, fun _ _ _ _ _ => rfl, fun _ _ _ _ _ => rfl, fun q hq => absurd hq (by omega), hS.2.2.2.2.1⟩
  · rintro k Z M hk ⟨I', L', z5, z6, rfl, rfl, hL, hI, hear, hnum⟩ self hself
    have hT' : CT I' t T := hT.fr (fun a b c q => hI a b c (fun e => by rw [e.1] at q; exact absurd q (by decide)) (fun e => by rw [e.1] at q; exact absurd q (by decide)))
    have hS' : CS I' j T (su S 10 0 (nks dr (shk T S h w) (S 10 0) k)) := hS.num (fun a c q q2 => hI a j c (fun e => by rw [e.1] at q; exact absurd (show false = true from q) (by decide)) (fun e => q2 ⟨e.1, e.2.2⟩)) hnum
    have zk : zin (nI k) 6 := n_zin hk (by decide)
    -- behind the answer whether it is longer
    have b45 : ∀ (I2 : zI) (L2 : zJ), zeL2 L L2 → (∀ a b c, ¬ (a = 41 ∧ b = j) → ¬ (a = 8 ∧ b = j ∧ c = 14) → I2 a b c = I a b c) → (∀ q, q < k → I2 41 j q = T.2.1 3 (6 * h + q) + lgr dr (shk T S h w) (S 10 0) q) → I2 8 j 14 = nks dr (shk T S h w) (S 10 0) (k + 1) → bX8_listen_45 K self [some (.inr (.inr (8, j))), some (.inl (nI h)), some (.inl (nI w)), some (.inl dI), some (.inl (nI k)), some (.inl (shk T S h w k)), z6] [.inl (lgr dr (shk T S h w) (S 10 0) k)] (I2, L2, P) := by
      intro I2 L2 hL2 hI2 he2 hn2
      have hT2 : CT I2 t T := hT.fr (fun a b c q => hI2 a b c (fun e => by rw [e.1] at q; exact absurd q (by decide)) (fun e => by rw [e.1] at q; exact absurd q (by decide)))
      have hb := (hT2.hand hh).2.2.2 k hk
      have fin : ∀ v : Int32, v = T.2.1 3 (6 * h + k) + lgr dr (shk T S h w) (S 10 0) k → self [some (.inr (.inr (8, j))), some (.inl (nI h)), some (.inl (nI w)), some (.inl dI), some (.inl (nI k + 1)), some (.inl (shk T S h w k)), some (.inl (lgr dr (shk T S h w) (S 10 0) k))] [] (zsI (I2, L2, P) 41 j k v) := by
        intro v hv
        rw [n_succ]
        refine hself _ _ ⟨(zsI (I2, L2, P) 41 j k v).1, L2, _, _, rfl, rfl, hL2, fun a b c q1 q2 => ?_, fun q hq => ?_, ?_⟩
        · show (if a = 41 ∧ b = j ∧ c = k then v else I2 a b c) = _
          rw [if_neg (fun e => q1 ⟨e.1, e.2.1⟩)]
          exact hI2 a b c q1 q2
        · show (if 41 = 41 ∧ j = j ∧ q = k then v else I2 41 j q) = _
          by_cases e : q = k
          · subst e
            rw [if_pos ⟨rfl, rfl, rfl⟩]; exact hv
          · rw [if_neg (fun e2 => e e2.2.2)]
            exact he2 q (by omega)
        · show (if 8 = 41 ∧ j = j ∧ 14 = k then v else I2 8 j 14) = _
          rw [if_neg (fun e => absurd e.1 (by decide))]; exact hn2
      refine And.intro (by show P 8 j 0 < 2; rw [ht]; exact hT.1) (And.intro zh (And.intro zk ?_))
      dsimp only [x_int, x_lng, x_ild, x_lld, x_ald, x_ist, x_ast, x_lst, x_inc, x_ii, x_id, x_i, x_ll, x_ld, x_l, x_cmp, x_i2l, x_l2i, x_if, x_ic, x_dup, x_pop, x_dup2, x_gI, x_gL, x_gR, x_g1, x_g0, x_gP, x_pI, x_pZ, x_pL, x_pP, x_al, x_as, x_all, x_asl, x_alr, x_len, x_cpy, x_m2, x_m1, x_m2l, x_m1l, x_call, x_cv, x_ri, x_rz, x_rl, x_rv, zg, zset, zbef, zlong, zcat, cond_true, cond_false, List.take, List.drop, rv1, rv2, rv3, rv4, rv5, rv6, rv7, sm0, sm1, bl0, bl1, bl2, bl3, bl4, bl5, bl6, bl7, bl8, List.nil_append, List.cons_append, List.length_cons, List.length_nil, Nat.reduceBEq, Nat.reduceAdd, Nat.reduceSub, ta, tb, tn0, tn1, tn2, tn3, tn4, tn5, tn6, tn7, tn8, tn9, tn10, tn11, tn12, zk_41, zl_41]
      rw [ht, n_cl (n := h) (by omega), n_cl (n := k) (by omega), hb]
      refine And.intro (fun c => ?_) (fun c => ?_)
      · refine And.intro zk ?_
        dsimp only [x_int, x_lng, x_ild, x_lld, x_ald, x_ist, x_ast, x_lst, x_inc, x_ii, x_id, x_i, x_ll, x_ld, x_l, x_cmp, x_i2l, x_l2i, x_if, x_ic, x_dup, x_pop, x_dup2, x_gI, x_gL, x_gR, x_g1, x_g0, x_gP, x_pI, x_pZ, x_pL, x_pP, x_al, x_as, x_all, x_asl, x_alr, x_len, x_cpy, x_m2, x_m1, x_m2l, x_m1l, x_call, x_cv, x_ri, x_rz, x_rl, x_rv, zg, zset, zbef, zlong, zcat, cond_true, cond_false, List.take, List.drop, rv1, rv2, rv3, rv4, rv5, rv6, rv7, sm0, sm1, bl0, bl1, bl2, bl3, bl4, bl5, bl6, bl7, bl8, List.nil_append, List.cons_append, List.length_cons, List.length_nil, Nat.reduceBEq, Nat.reduceAdd, Nat.reduceSub, ta, tb, tn0, tn1, tn2, tn3, tn4, tn5, tn6, tn7, tn8, tn9, tn10, tn11, tn12, bX8_listen_78]
        rw [n_cl (n := k) (by omega)]
        exact fin _ (by have c : lgr dr (shk T S h w) (S 10 0) k = 0 := c; rw [c])
      · refine And.intro zk ?_
        dsimp only [x_int, x_lng, x_ild, x_lld, x_ald, x_ist, x_ast, x_lst, x_inc, x_ii, x_id, x_i, x_ll, x_ld, x_l, x_cmp, x_i2l, x_l2i, x_if, x_ic, x_dup, x_pop, x_dup2, x_gI, x_gL, x_gR, x_g1, x_g0, x_gP, x_pI, x_pZ, x_pL, x_pP, x_al, x_as, x_all, x_asl, x_alr, x_len, x_cpy, x_m2, x_m1, x_m2l, x_m1l, x_call, x_cv, x_ri, x_rz, x_rl, x_rv, zg, zset, zbef, zlong, zcat, cond_true, cond_false, List.take, List.drop, rv1, rv2, rv3, rv4, rv5, rv6, rv7, sm0, sm1, bl0, bl1, bl2, bl3, bl4, bl5, bl6, bl7, bl8, List.nil_append, List.cons_append, List.length_cons, List.length_nil, Nat.reduceBEq, Nat.reduceAdd, Nat.reduceSub, ta, tb, tn0, tn1, tn2, tn3, tn4, tn5, tn6, tn7, tn8, tn9, tn10, tn11, tn12, bX8_listen_78]
        rw [n_cl (n := k) (by omega)]
        exact fin _ (by
          rcases dr1_b dr (shk T S h w k) (nks dr (shk T S h w) (S 10 0) k) with e | e
          · exact absurd e c
          · show _ + 1 = _ + (dr1 dr (shk T S h w k) (nks dr (shk T S h w) (S 10 0) k)).2
            rw [e])
    refine And.intro (fun c => absurd c (lt_go (n := 6) rfl (by omega) hk)) (fun _ => ?_)
    dsimp only [x_int, x_lng, x_ild, x_lld, x_ald, x_ist, x_ast, x_lst, x_inc, x_ii, x_id, x_i, x_ll, x_ld, x_l, x_cmp, x_i2l, x_l2i, x_if, x_ic, x_dup, x_pop, x_dup2, x_gI, x_gL, x_gR, x_g1, x_g0, x_gP, x_pI, x_pZ, x_pL, x_pP, x_al, x_as, x_all, x_asl, x_alr, x_len, x_cpy, x_m2, x_m1, x_m2l, x_m1l, x_call, x_cv, x_ri, x_rz, x_rl, x_rv, zg, zset, zbef, zlong, zcat, cond_true, cond_false, List.take, List.drop, rv1, rv2, rv3, rv4, rv5, rv6, rv7, sm0, sm1, bl0, bl1, bl2, bl3, bl4, bl5, bl6, bl7, bl8, List.nil_append, List.cons_append, List.length_cons, List.length_nil, Nat.reduceBEq, Nat.reduceAdd, Nat.reduceSub, ta, tb, tn0, tn1, tn2, tn3, tn4, tn5, tn6, tn7, tn8, tn9, tn10, tn11, tn12]
    refine p_shake ht hT' hS' hh hw hk (fun L2 hL2 => ?_)
    rw [shk_num]
    have hL3 : zeL2 L L2 := fun a b c q1 q2 => (hL2 a b c q1 q2).trans (hL a b c q1 q2)
    rcases hdr with ⟨d1, d2⟩ | ⟨d1, d2⟩
    · subst d2
      refine And.intro (fun _ => ?_) (fun c => absurd d1 c)
      have hn : I' 8 j 14 = nks false (shk T S h w) (S 10 0) (k + 1) := hnum
      have el : lgr false (shk T S h w) (S 10 0) k = if shk T S h w k < 50 then 0 else 1 := rfl
      refine And.intro (fun c => ?_) (fun c => ?_)
      · rw [if_pos c] at el
        have := b45 I' L2 hL3 hI hear hn
        rw [el] at this
        exact this
      · rw [if_neg c] at el
        have := b45 I' L2 hL3 hI hear hn
        rw [el] at this
        exact this
    · subst d2
      refine And.intro (fun c => absurd c d1) (fun _ => ?_)
      refine p_isAboveDrawn (fun I3 hI3 hn3 => ?_)
      rw [hnum] at hn3 ⊢
      try dsimp only [x_int, x_lng, x_ild, x_lld, x_ald, x_ist, x_ast, x_lst, x_inc, x_ii, x_id, x_i, x_ll, x_ld, x_l, x_cmp, x_i2l, x_l2i, x_if, x_ic, x_dup, x_pop, x_dup2, x_gI, x_gL, x_gR, x_g1, x_g0, x_gP, x_pI, x_pZ, x_pL, x_pP, x_al, x_as, x_all, x_asl, x_alr, x_len, x_cpy, x_m2, x_m1, x_m2l, x_m1l, x_call, x_cv, x_ri, x_rz, x_rl, x_rv, zg, zset, zbef, zlong, zcat, cond_true, cond_false, List.take, List.drop, rv1, rv2, rv3, rv4, rv5, rv6, rv7, sm0, sm1, bl0, bl1, bl2, bl3, bl4, bl5, bl6, bl7, bl8, List.nil_append, List.cons_append, List.length_cons, List.length_nil, Nat.reduceBEq, Nat.reduceAdd, Nat.reduceSub, ta, tb, tn0, tn1, tn2, tn3, tn4, tn5, tn6, tn7, tn8, tn9, tn10, tn11, tn12]
      refine b45 I3 L2 hL3 (fun a b c q1 q2 => (hI3 a b c q2).trans (hI a b c q1 q2)) (fun q hq => ?_) hn3
      rw [hI3 41 j q (fun e => absurd e.1 (by decide))]
      exact hear q hq
  · rintro Z M ⟨I', L', z5, z6, rfl, rfl, hL, hI, hear, hnum⟩ self
    exact And.intro (fun _ => hK I' L' hL hI hear hnum) (fun c => absurd c (lt_out (n := 6) rfl))
