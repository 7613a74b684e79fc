-- a new knock
theorem cod_hl : ∀ c, c < 4096 → nI c / 64 &&& 63 = nI (c / 64) ∧ nI c &&& 63 = nI (c % 64) := by decide +kernel
theorem cod_k : ∀ k, k < 6 → ∀ c, c < 4096 → (nI c >>> ((10 - 2 * nI k) &&& 31)) &&& 3 = nI (c / 4 ^ (5 - k) % 4) := by decide +kernel
theorem codK_1 {c k : Nat} : 1 + nI (c / 4 ^ (5 - k) % 4) = codK c k := by
  unfold codK
  rw [show (1 : Int32) = nI 1 from rfl, n_add, Nat.add_comm]
theorem apn_6 (f : Nat → Int32) : apn f 6 = apn f 3 + apn (fun k => f (3 + k)) 3 := by
  simp only [apn, Int32.zero_add, Int32.add_assoc]
theorem gap_far {T : aT} {h c : Nat} (hc : c < 4096) : gapv T h (c / 64) + gapv T h (64 + c % 64) = farf T (codK c) h := by
  unfold farf
  rw [apn_6]
  unfold gapv
  have e1 : apn (fun k => T.2.1 3 (6 * h + ((if c / 64 < 64 then 0 else 3) + k)) - beH (c / 64) k) 3 = apn (fun k => T.2.1 3 (6 * h + k) - codK c k) 3 := by
    refine apn_congr (fun k hk => ?_)
    rw [if_pos (by omega), Nat.zero_add]
    have : beH (c / 64) k = codK c k := by
      unfold beH codK
      rw [Nat.div_div_eq_div_mul]
      have : 64 * 4 ^ (2 - k) = 4 ^ (5 - k) := by
        have : k = 0 ∨ k = 1 ∨ k = 2 := by omega
        rcases this with rfl | rfl | rfl <;> decide
      rw [this]
    rw [this]
  have e2 : apn (fun k => T.2.1 3 (6 * h + ((if 64 + c % 64 < 64 then 0 else 3) + k)) - beH (64 + c % 64) k) 3 = apn (fun k => T.2.1 3 (6 * h + (3 + k)) - codK c (3 + k)) 3 := by
    refine apn_congr (fun k hk => ?_)
    rw [if_neg (by omega)]
    have : beH (64 + c % 64) k = codK c (3 + k) := by
      unfold beH codK
      have : k = 0 ∨ k = 1 ∨ k = 2 := by omega
      rcases this with rfl | rfl | rfl
      · rw [show (64 + c % 64) / 4 ^ (2 - 0) % 4 = c / 4 ^ (5 - (3 + 0)) % 4 by simp; omega]
      · rw [show (64 + c % 64) / 4 ^ (2 - 1) % 4 = c / 4 ^ (5 - (3 + 1)) % 4 by simp; omega]
      · rw [show (64 + c % 64) / 4 ^ (2 - 2) % 4 = c / 4 ^ (5 - (3 + 2)) % 4 by simp; omega]
    rw [this]
  rw [e1, e2]
theorem p_apartCode {K : zQ} {I : zI} {L : zJ} {P : zP} {T : aT} {t h c : Nat} (hc : c < 4096) (hg : ∀ i, i < 128 → I 15 (6 * t + h) i = gapv T h i) (hK : K [.inl (farf T (codK c) h)] (I, L, P)) : mX1_apartFromCode K [.inr (.inr (1, 6 * t + h)), .inl (nI c)] (I, L, P) := by
  obtain ⟨q1, q2⟩ := cod_hl c hc
  show bX1_apartFromCode_0 K [some (.inr (.inr (1,6 * t + h))), some (.inl (nI c)), none, none] [] (I, L, P)
  unfold bX1_apartFromCode_0
  dsimp only [x_int, x_lng, x_ild, x_lld, x_ald, x_ist, x_ast, x_lst, x_inc, x_ii, x_id, x_i, x_ll, x_ld, x_l, x_cmp, x_i2l, x_l2i, x_if, x_ic, x_dup, x_pop, x_dup2, x_gI, x_gL, x_gR, x_g1, x_g0, x_gP, x_pI, x_pZ, x_pL, x_pP, x_al, x_as, x_all, x_asl, x_alr, x_len, x_cpy, x_m2, x_m1, x_m2l, x_m1l, x_call, x_cv, x_ri, x_rz, x_rl, x_rv, zg, zset, zbef, zlong, zcat, cond_true, cond_false, List.take, List.drop, rv1, rv2, rv3, rv4, rv5, rv6, rv7, sm0, sm1, bl0, bl1, bl2, bl3, bl4, bl5, bl6, bl7, bl8, List.nil_append, List.cons_append, List.length_cons, List.length_nil, Nat.reduceBEq, Nat.reduceAdd, Nat.reduceSub, ta, tb, tn0, tn1, tn2, tn3, tn4, tn5, tn6, tn7, tn8, tn9, tn10, tn11, tn12, zk_15, zl_15]
  rw [q1, q2, show (64 : Int32) + nI (c % 64) = nI (64 + c % 64) from n_add 64 _, n_cl (n := c / 64) (by omega), n_cl (n := 64 + c % 64) (by omega), hg _ (by omega), hg _ (by omega), gap_far hc]
  exact ⟨by decide, n_zin (by omega) (by decide), n_zin (by omega) (by decide), hK⟩
theorem lst_mono {T : aT} {g : Nat → Int32} : ∀ m n, lst T g (n + m) ≤ lst T g n := by
  intro m
  induction m with
  | zero => intro n; exact Int32.le_refl _
  | succ m ih =>
    intro n
    have s : lst T g (n + (m + 1)) = if farf T g (n + m) < lst T g (n + m) then farf T g (n + m) else lst T g (n + m) := rfl
    rw [s]
    split
    · rename_i h
      exact Int32.le_trans (Int32.le_of_lt h) (ih n)
    · exact ih n
theorem p_leastC {K : zQ} {I : zI} {L : zJ} {P : zP} {T : aT} {t c : Nat} {fl : Int32} (hc : c < 4096) (hT : CT I t T) (hg : ∀ h, h < T.1 0 → ∀ i, i < 128 → I 15 (6 * t + h) i = gapv T h i) (hK : ∀ v : Int32, (v = lst T (codK c) (T.1 0) ∨ (v ≤ fl ∧ lst T (codK c) (T.1 0) ≤ fl)) → K [.inl v] (I, L, P)) : mX9_leastApart K [.inr (.inr (9, t)), .inl (nI c), .inl fl] (I, L, P) := by
  have h6 := hT.h6
  show bX9_leastApart_6 K [some (.inr (.inr (9, t))), some (.inl (nI c)), some (.inl fl), some (.inl 24), some (.inl 0)] [] (I, L, P)
  refine zinv (T.1 0) (fun i Z M => Z = [some (.inr (.inr (9, t))), some (.inl (nI c)), some (.inl fl), some (.inl (lst T (codK c) i)), some (.inl (nI i))] ∧ M = (I, L, P)) ?_ ?_ ⟨rfl, rfl⟩
  · rintro i Z M hi ⟨rfl, rfl⟩ self hself
    dsimp only [x_int, x_lng, x_ild, x_lld, x_ald, x_ist, x_ast, x_lst, x_inc, x_ii, x_id, x_i, x_ll, x_ld, x_l, x_cmp, x_i2l, x_l2i, x_if, x_ic, x_dup, x_pop, x_dup2, x_gI, x_gL, x_gR, x_g1, x_g0, x_gP, x_pI, x_pZ, x_pL, x_pP, x_al, x_as, x_all, x_asl, x_alr, x_len, x_cpy, x_m2, x_m1, x_m2l, x_m1l, x_call, x_cv, x_ri, x_rz, x_rl, x_rv, zg, zset, zbef, zlong, zcat, cond_true, cond_false, List.take, List.drop, rv1, rv2, rv3, rv4, rv5, rv6, rv7, sm0, sm1, bl0, bl1, bl2, bl3, bl4, bl5, bl6, bl7, bl8, List.nil_append, List.cons_append, List.length_cons, List.length_nil, Nat.reduceBEq, Nat.reduceAdd, Nat.reduceSub, ta, tb, tn0, tn1, tn2, tn3, tn4, tn5, tn6, tn7, tn8, tn9, tn10, tn11, tn12, zl_43, bX9_leastApart_42]
    rw [n_cl (n := i) (by omega)]
    refine ⟨fun q => absurd q (lt_go hT.2.1.1 (by omega) hi), fun _ => ⟨fun d => hK _ (Or.inr ⟨d, ?_⟩), fun d => ⟨n_zin (by omega) (by decide), p_apartCode hc (hg i hi) ?_⟩⟩⟩
    · have := lst_mono (T := T) (g := codK c) (T.1 0 - i) i
      rw [show i + (T.1 0 - i) = T.1 0 by omega] at this
      exact Int32.le_trans this d
    · dsimp only [x_int, x_lng, x_ild, x_lld, x_ald, x_ist, x_ast, x_lst, x_inc, x_ii, x_id, x_i, x_ll, x_ld, x_l, x_cmp, x_i2l, x_l2i, x_if, x_ic, x_dup, x_pop, x_dup2, x_gI, x_gL, x_gR, x_g1, x_g0, x_gP, x_pI, x_pZ, x_pL, x_pP, x_al, x_as, x_all, x_asl, x_alr, x_len, x_cpy, x_m2, x_m1, x_m2l, x_m1l, x_call, x_cv, x_ri, x_rz, x_rl, x_rv, zg, zset, zbef, zlong, zcat, cond_true, cond_false, List.take, List.drop, rv1, rv2, rv3, rv4, rv5, rv6, rv7, sm0, sm1, bl0, bl1, bl2, bl3, bl4, bl5, bl6, bl7, bl8, List.nil_append, List.cons_append, List.length_cons, List.length_nil, Nat.reduceBEq, Nat.reduceAdd, Nat.reduceSub, ta, tb, tn0, tn1, tn2, tn3, tn4, tn5, tn6, tn7, tn8, tn9, tn10, tn11, tn12]
      rw [n_succ i]
      exact hself _ _ ⟨rfl, rfl⟩
  · rintro Z M ⟨rfl, rfl⟩ self
    dsimp only [x_int, x_lng, x_ild, x_lld, x_ald, x_ist, x_ast, x_lst, x_inc, x_ii, x_id, x_i, x_ll, x_ld, x_l, x_cmp, x_i2l, x_l2i, x_if, x_ic, x_dup, x_pop, x_dup2, x_gI, x_gL, x_gR, x_g1, x_g0, x_gP, x_pI, x_pZ, x_pL, x_pP, x_al, x_as, x_all, x_asl, x_alr, x_len, x_cpy, x_m2, x_m1, x_m2l, x_m1l, x_call, x_cv, x_ri, x_rz, x_rl, x_rv, zg, zset, zbef, zlong, zcat, cond_true, cond_false, List.take, List.drop, rv1, rv2, rv3, rv4, rv5, rv6, rv7, sm0, sm1, bl0, bl1, bl2, bl3, bl4, bl5, bl6, bl7, bl8, List.nil_append, List.cons_append, List.length_cons, List.length_nil, Nat.reduceBEq, Nat.reduceAdd, Nat.reduceSub, ta, tb, tn0, tn1, tn2, tn3, tn4, tn5, tn6, tn7, tn8, tn9, tn10, tn11, tn12, bX9_leastApart_42]
    exact ⟨fun _ => hK _ (Or.inl rfl), fun q => absurd q (lt_out hT.2.1.1)⟩
theorem lst_nn {T : aT} (wT : WT T) (h6 : T.1 0 ≤ 6) {g : Nat → Int32} (hg : gSm g) : ∀ n, n ≤ T.1 0 → ∃ m, m ≤ 54 ∧ lst T g n = nI m := by
  intro n
  induction n with
  | zero => intro _; exact ⟨24, by omega, rfl⟩
  | succ n ih =>
    intro hn
    have s : lst T g (n + 1) = if farf T g n < lst T g n then farf T g n else lst T g n := rfl
    rw [s]
    split
    · exact farf_small wT hg (by omega)
    · exact ih (by omega)
theorem codK_sm (c : Nat) : gSm (codK c) := fun k hk => ⟨c / 4 ^ (5 - k) % 4 + 1, by omega, rfl⟩
theorem CT.n {I I' : zI} {t : Nat} {T : aT} (h : CT I t T) (e : ∀ a b c, ¬ (a = 9 ∧ b = t ∧ (c = 13 ∨ c = 14)) → I' a b c = I a b c) : CT I' t T := by
  unfold CT at h ⊢
  obtain ⟨h1, h2, h3, h4, h5, h6, h7, h8⟩ := h
  refine ⟨h1, ?_, h3, fun x hx => ?_, fun x hx => ?_, fun x hx => ?_, ?_, fun x hx => ?_⟩
  · rw [e 9 t _ (by decide), e 9 t _ (by decide), e 9 t _ (by decide)]; exact h2
  · rw [e 1 _ _ (by omega), e 1 _ _ (by omega), e 1 _ _ (by omega)]
    simp only [e 14 _ _ (show ¬ (14 = 9 ∧ _) from by omega)]
    exact h4 x hx
  · rw [e 10 _ _ (by omega), e 10 _ _ (by omega), e 10 _ _ (by omega), e 10 _ _ (by omega)]; exact h5 x hx
  · rw [e 4 _ _ (by omega), e 4 _ _ (by omega), e 4 _ _ (by omega)]; exact h6 x hx
  · rw [e 9 t _ (by decide), e 9 t _ (by decide), e 9 t _ (by decide)]; exact h7
  · rw [e 2 _ _ (by omega)]
    refine ⟨(h8 x hx).1, (h8 x hx).2.1, fun i hi => ?_⟩
    rw [e 16 _ _ (by omega)]; exact (h8 x hx).2.2 i hi
