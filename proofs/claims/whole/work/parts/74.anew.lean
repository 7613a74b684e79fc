-- a new knock
theorem cod_hl0 : ∀ a, a < 64 → ∀ b, b < 64 → nI (64 * a + b) / 64 &&& 63 = nI a ∧ nI (64 * a + b) &&& 63 = nI b := by decide +kernel
theorem cod_hl (c : Nat) (hc : c < 4096) : nI c / 64 &&& 63 = nI (c / 64) ∧ nI c &&& 63 = nI (c % 64) := by
  have := cod_hl0 (c / 64) (by omega) (c % 64) (by omega)
  rw [show 64 * (c / 64) + c % 64 = c by omega] at this
  exact this
theorem cod_k0 : ∀ k, k < 6 → ∀ a, a < 64 → ∀ b, b < 64 → (nI (64 * a + b) >>> ((10 - 2 * nI k) &&& 31)) &&& 3 = nI ((64 * a + b) / 4 ^ (5 - k) % 4) := by decide +kernel
theorem cod_k (k : Nat) (hk : k < 6) (c : Nat) (hc : c < 4096) : (nI c >>> ((10 - 2 * nI k) &&& 31)) &&& 3 = nI (c / 4 ^ (5 - k) % 4) := by
  have := cod_k0 k hk (c / 64) (by omega) (c % 64) (by omega)
  rw [show 64 * (c / 64) + c % 64 = c by omega] at this
  exact this
theorem codK_1 {c k : Nat} : 1 + nI (c / 4 ^ (5 - k) % 4) = codK c k := by
  unfold codK
  rw [show (1 : Int32) = nI 1 from rfl, n_add, Nat.add_comm]
theorem apn_6 (f : Nat → Int32) : apn f 6 = apn f 3 + apn (fun k => f (3 + k)) 3 := by
  simp only [apn, Int32.zero_add, Int32.add_assoc]
theorem gap_far {T : aT} {h c : Nat} (hc : c < 4096) : gapv T h (c / 64) + gapv T h (64 + c % 64) = farf T (codK c) h := by
  unfold farf
  rw [apn_6]
  unfold gapv
  have e1 : apn (fun k => T.2.1 3 (6 * h + ((if c / 64 < 64 then 0 else 3) + k)) - beH (c / 64) k) 3 = apn (fun k => T.2.1 3 (6 * h + k) - codK c k) 3 := by
    refine apn_congr (fun k hk => ?_)
    rw [if_pos (by omega), Nat.zero_add]
    have : beH (c / 64) k = codK c k := by
      unfold beH codK
      rw [Nat.div_div_eq_div_mul]
      have : 64 * 4 ^ (2 - k) = 4 ^ (5 - k) := by
        have : k = 0 ∨ k = 1 ∨ k = 2 := by omega
        rcases this with rfl | rfl | rfl <;> decide
      rw [this]
    rw [this]
  have e2 : apn (fun k => T.2.1 3 (6 * h + ((if 64 + c % 64 < 64 then 0 else 3) + k)) - beH (64 + c % 64) k) 3 = apn (fun k => T.2.1 3 (6 * h + (3 + k)) - codK c (3 + k)) 3 := by
    refine apn_congr (fun k hk => ?_)
    rw [if_neg (by omega)]
    have : beH (64 + c % 64) k = codK c (3 + k) := by
      unfold beH codK
      have : k = 0 ∨ k = 1 ∨ k = 2 := by omega
      rcases this with rfl | rfl | rfl
      · rw [show (64 + c % 64) / 4 ^ (2 - 0) % 4 = c / 4 ^ (5 - (3 + 0)) % 4 by simp; omega]
      · rw [show (64 + c % 64) / 4 ^ (2 - 1) % 4 = c / 4 ^ (5 - (3 + 1)) % 4 by simp; omega]
      · rw [show (64 + c % 64) / 4 ^ (2 - 2) % 4 = c / 4 ^ (5 - (3 + 2)) % 4 by simp; omega]
    rw [this]
  rw [e1, e2]
theorem p_apartCode {K : zQ} {I : zI} {L : zJ} {P : zP} {T : aT} {t h c : Nat} (hc : c < 4096) (hg : ∀ i, i < 128 → I 15 (6 * t + h) i = gapv T h i) (hK : K [.inl (farf T (codK c) h)] (I, L, P)) : mX1_apartFromCode K [.inr (.inr (1, 6 * t + h)), .inl (nI c)] (I, L, P) := by
  obtain ⟨q1, q2⟩ := cod_hl c hc
  show bX1_apartFromCode_0 K [some (.inr (.inr (1,6 * t + h))), some (.inl (nI c)), none, none] [] (I, L, P)
  unfold bX1_apartFromCode_0
  dsimp only [x_int, x_lng, x_ild, x_lld, x_ald, x_ist, x_ast, x_lst, x_inc, x_ii, x_id, x_i, x_ll, x_ld, x_l, x_cmp, x_i2l, x_l2i, x_if, x_ic, x_dup, x_pop, x_dup2, x_gI, x_gL, x_gR, x_g1, x_g0, x_gP, x_pI, x_pZ, x_pL, x_pP, x_al, x_as, x_all, x_asl, x_alr, x_len, x_cpy, x_m2, x_m1, x_m2l, x_m1l, x_call, x_cv, x_ri, x_rz, x_rl, x_rv, zg, zset, zbef, zlong, zcat, cond_true, cond_false, List.take, List.drop, rv1, rv2, rv3, rv4, rv5, rv6, rv7, sm0, sm1, bl0, bl1, bl2, bl3, bl4, bl5, bl6, bl7, bl8, List.nil_append, List.cons_append, List.length_cons, List.length_nil, Nat.reduceBEq, Nat.reduceAdd, Nat.reduceSub, ta, tb, tn0, tn1, tn2, tn3, tn4, tn5, tn6, tn7, tn8, tn9, tn10, tn11, tn12, zk_15, zl_15]
  rw [q1, q2, show (64 : Int32) + nI (c % 64) = nI (64 + c % 64) from n_add 64 _, n_cl (n := c / 64) (by omega), n_cl (n := 64 + c % 64) (by omega), hg _ (by omega), hg _ (by omega), gap_far hc]
  exact ⟨by decide, n_zin (by omega) (by decide), n_zin (by omega) (by decide), hK⟩
theorem lst_mono {T : aT} {g : Nat → Int32} : ∀ m n, lst T g (n + m) ≤ lst T g n := by
  intro m
  induction m with
  | zero => intro n; exact Int32.le_refl _
  | succ m ih =>
    intro n
    have s : lst T g (n + (m + 1)) = if farf T g (n + m) < lst T g (n + m) then farf T g (n + m) else lst T g (n + m) := rfl
    rw [s]
    split
    · rename_i h
      exact Int32.le_trans (Int32.le_of_lt h) (ih n)
    · exact ih n
theorem p_leastC {K : zQ} {I : zI} {L : zJ} {P : zP} {T : aT} {t c : Nat} {fl : Int32} (hc : c < 4096) (hT : CT I t T) (hg : ∀ h, h < T.1 0 → ∀ i, i < 128 → I 15 (6 * t + h) i = gapv T h i) (hK : ∀ v : Int32, (v = lst T (codK c) (T.1 0) ∨ (v ≤ fl ∧ lst T (codK c) (T.1 0) ≤ fl)) → K [.inl v] (I, L, P)) : mX9_leastApart K [.inr (.inr (9, t)), .inl (nI c), .inl fl] (I, L, P) := by
  have h6 := hT.h6
  show bX9_leastApart_6 K [some (.inr (.inr (9, t))), some (.inl (nI c)), some (.inl fl), some (.inl 24), some (.inl 0)] [] (I, L, P)
  refine zinv (T.1 0) (fun i Z M => Z = [some (.inr (.inr (9, t))), some (.inl (nI c)), some (.inl fl), some (.inl (lst T (codK c) i)), some (.inl (nI i))] ∧ M = (I, L, P)) ?_ ?_ ⟨rfl, rfl⟩
  · rintro i Z M hi ⟨rfl, rfl⟩ self hself
    dsimp only [x_int, x_lng, x_ild, x_lld, x_ald, x_ist, x_ast, x_lst, x_inc, x_ii, x_id, x_i, x_ll, x_ld, x_l, x_cmp, x_i2l, x_l2i, x_if, x_ic, x_dup, x_pop, x_dup2, x_gI, x_gL, x_gR, x_g1, x_g0, x_gP, x_pI, x_pZ, x_pL, x_pP, x_al, x_as, x_all, x_asl, x_alr, x_len, x_cpy, x_m2, x_m1, x_m2l, x_m1l, x_call, x_cv, x_ri, x_rz, x_rl, x_rv, zg, zset, zbef, zlong, zcat, cond_true, cond_false, List.take, List.drop, rv1, rv2, rv3, rv4, rv5, rv6, rv7, sm0, sm1, bl0, bl1, bl2, bl3, bl4, bl5, bl6, bl7, bl8, List.nil_append, List.cons_append, List.length_cons, List.length_nil, Nat.reduceBEq, Nat.reduceAdd, Nat.reduceSub, ta, tb, tn0, tn1, tn2, tn3, tn4, tn5, tn6, tn7, tn8, tn9, tn10, tn11, tn12, zl_43, bX9_leastApart_42]
    rw [n_cl (n := i) (by omega)]
    refine ⟨fun q => absurd q (lt_go hT.2.1.1 (by omega) hi), fun _ => ⟨fun d => hK _ (Or.inr ⟨d, ?_⟩), fun d => ⟨n_zin (by omega) (by decide), p_apartCode hc (hg i hi) ?_⟩⟩⟩
    · have := lst_mono (T := T) (g := codK c) (T.1 0 - i) i
      rw [show i + (T.1 0 - i) = T.1 0 by omega] at this
      exact Int32.le_trans this d
    · dsimp only [x_int, x_lng, x_ild, x_lld, x_ald, x_ist, x_ast, x_lst, x_inc, x_ii, x_id, x_i, x_ll, x_ld, x_l, x_cmp, x_i2l, x_l2i, x_if, x_ic, x_dup, x_pop, x_dup2, x_gI, x_gL, x_gR, x_g1, x_g0, x_gP, x_pI, x_pZ, x_pL, x_pP, x_al, x_as, x_all, x_asl, x_alr, x_len, x_cpy, x_m2, x_m1, x_m2l, x_m1l, x_call, x_cv, x_ri, x_rz, x_rl, x_rv, zg, zset, zbef, zlong, zcat, cond_true, cond_false, List.take, List.drop, rv1, rv2, rv3, rv4, rv5, rv6, rv7, sm0, sm1, bl0, bl1, bl2, bl3, bl4, bl5, bl6, bl7, bl8, List.nil_append, List.cons_append, List.length_cons, List.length_nil, Nat.reduceBEq, Nat.reduceAdd, Nat.reduceSub, ta, tb, tn0, tn1, tn2, tn3, tn4, tn5, tn6, tn7, tn8, tn9, tn10, tn11, tn12]
      rw [n_succ i]
      exact hself _ _ ⟨rfl, rfl⟩
  · rintro Z M ⟨rfl, rfl⟩ self
    dsimp only [x_int, x_lng, x_ild, x_lld, x_ald, x_ist, x_ast, x_lst, x_inc, x_ii, x_id, x_i, x_ll, x_ld, x_l, x_cmp, x_i2l, x_l2i, x_if, x_ic, x_dup, x_pop, x_dup2, x_gI, x_gL, x_gR, x_g1, x_g0, x_gP, x_pI, x_pZ, x_pL, x_pP, x_al, x_as, x_all, x_asl, x_alr, x_len, x_cpy, x_m2, x_m1, x_m2l, x_m1l, x_call, x_cv, x_ri, x_rz, x_rl, x_rv, zg, zset, zbef, zlong, zcat, cond_true, cond_false, List.take, List.drop, rv1, rv2, rv3, rv4, rv5, rv6, rv7, sm0, sm1, bl0, bl1, bl2, bl3, bl4, bl5, bl6, bl7, bl8, List.nil_append, List.cons_append, List.length_cons, List.length_nil, Nat.reduceBEq, Nat.reduceAdd, Nat.reduceSub, ta, tb, tn0, tn1, tn2, tn3, tn4, tn5, tn6, tn7, tn8, tn9, tn10, tn11, tn12, bX9_leastApart_42]
    exact ⟨fun _ => hK _ (Or.inl rfl), fun q => absurd q (lt_out hT.2.1.1)⟩
theorem lst_nn {T : aT} (wT : WT T) (h6 : T.1 0 ≤ 6) {g : Nat → Int32} (hg : gSm g) : ∀ n, n ≤ T.1 0 → ∃ m, m ≤ 54 ∧ lst T g n = nI m := by
  intro n
  induction n with
  | zero => intro _; exact ⟨24, by omega, rfl⟩
  | succ n ih =>
    intro hn
    have s : lst T g (n + 1) = if farf T g n < lst T g n then farf T g n else lst T g n := rfl
    rw [s]
    split
    · exact farf_small wT hg (by omega)
    · exact ih (by omega)
theorem codK_sm (c : Nat) : gSm (codK c) := fun k hk => ⟨c / 4 ^ (5 - k) % 4 + 1, by omega, rfl⟩
theorem CT.n {I I' : zI} {t : Nat} {T : aT} (h : CT I t T) (e : ∀ a b c, ¬ (a = 9 ∧ b = t ∧ (c = 13 ∨ c = 14)) → I' a b c = I a b c) : CT I' t T := by
  unfold CT at h ⊢
  obtain ⟨h1, h2, h3, h4, h5, h6, h7, h8⟩ := h
  refine ⟨h1, ?_, h3, fun x hx => ?_, fun x hx => ?_, fun x hx => ?_, ?_, fun x hx => ?_⟩
  · rw [e 9 t _ (by omega), e 9 t _ (by omega), e 9 t _ (by omega)]; exact h2
  · rw [e 1 _ _ (by omega), e 1 _ _ (by omega), e 1 _ _ (by omega)]
    have e14 : ∀ b c, I' 14 b c = I 14 b c := fun b c => e 14 b c (by omega)
    simp only [e14]
    exact h4 x hx
  · rw [e 10 _ _ (by omega), e 10 _ _ (by omega), e 10 _ _ (by omega), e 10 _ _ (by omega)]; exact h5 x hx
  · rw [e 4 _ _ (by omega), e 4 _ _ (by omega), e 4 _ _ (by omega)]; exact h6 x hx
  · rw [e 9 t _ (by omega), e 9 t _ (by omega), e 9 t _ (by omega)]; exact h7
  · rw [e 2 _ _ (by omega)]
    refine ⟨(h8 x hx).1, (h8 x hx).2.1, fun i hi => ?_⟩
    rw [e 16 _ _ (by omega)]; exact (h8 x hx).2.2 i hi
def nwf (t : Nat) (I I' : zI) : Prop := ∀ a b c, ¬ (a = 9 ∧ b = t ∧ (c = 13 ∨ c = 14)) → I' a b c = I a b c
theorem n_nneg {m : Nat} (h : m < 2147483648) : ¬ nI m ≤ -1 := fun q => by
  rw [Int32.le_iff_toInt_le, n_toInt h] at q
  have e1 : (-1 : Int32).toInt = -1 := rfl
  omega
theorem n_ne1 {m : Nat} (h : m < 2147483648) : ¬ nI m = -1 := fun q => n_nneg h (by rw [q]; exact Int32.le_refl _)
theorem anw_lt {T : aT} : ∀ n, (anw T (n + 1)).1 ≤ n := by
  intro n
  induction n with
  | zero =>
    show (if _ then anw T 0 else _).1 ≤ 0
    split
    · exact Nat.le_refl 0
    · exact Nat.le_refl 0
  | succ n ih =>
    show (if _ then anw T (n + 1) else _).1 ≤ n + 1
    split
    · omega
    · exact Nat.le_refl _
theorem anw_4 {T : aT} : (anw T 4096).1 < 4096 := Nat.lt_succ_of_le (anw_lt 4095)
theorem p_findNew {K : zQ} {I : zI} {L : zJ} {P : zP} {T : aT} {t : Nat} (wT : WT T) (hC : RCt T I P t) (hK : ∀ I' : zI, nwf t I I' → I' 9 t 13 = nI (anw T 4096).1 → I' 9 t 14 = (anw T 4096).2 → K [] (I', L, P)) : mX9_findNew K [.inr (.inr (9, t))] (I, L, P) := by
  obtain ⟨hT, -, -, hg, hn⟩ := hC
  have h6 := hT.h6
  have nn : ∀ i, ¬ lst T (codK i) (T.1 0) ≤ -1 := fun i q => by
    obtain ⟨m, hm, e⟩ := lst_nn wT h6 (codK_sm i) (T.1 0) (Nat.le_refl _)
    rw [e] at q
    exact n_nneg (by omega) q
  show bX9_findNew_0 K [some (.inr (.inr (9,t))), none, none] [] (I, L, P)
  unfold bX9_findNew_0
  dsimp only [x_int, x_lng, x_ild, x_lld, x_ald, x_ist, x_ast, x_lst, x_inc, x_ii, x_id, x_i, x_ll, x_ld, x_l, x_cmp, x_i2l, x_l2i, x_if, x_ic, x_dup, x_pop, x_dup2, x_gI, x_gL, x_gR, x_g1, x_g0, x_gP, x_pI, x_pZ, x_pL, x_pP, x_al, x_as, x_all, x_asl, x_alr, x_len, x_cpy, x_m2, x_m1, x_m2l, x_m1l, x_call, x_cv, x_ri, x_rz, x_rl, x_rv, zg, zset, zbef, zlong, zcat, cond_true, cond_false, List.take, List.drop, rv1, rv2, rv3, rv4, rv5, rv6, rv7, sm0, sm1, bl0, bl1, bl2, bl3, bl4, bl5, bl6, bl7, bl8, List.nil_append, List.cons_append, List.length_cons, List.length_nil, Nat.reduceBEq, Nat.reduceAdd, Nat.reduceSub, ta, tb, tn0, tn1, tn2, tn3, tn4, tn5, tn6, tn7, tn8, tn9, tn10, tn11, tn12]
  rcases hn with ⟨n1, n2⟩ | ⟨n1, n2⟩
  · rw [n1]
    refine ⟨fun _ => ?_, fun c => absurd rfl c⟩
    refine zinv 4096 (fun i Z M => ∃ (I' : zI) (z2 : Option zV), Z = [some (.inr (.inr (9, t))), some (.inl (nI i)), z2] ∧ M = (I', L, P) ∧ nwf t I I' ∧ I' 9 t 13 = (if i = 0 then -1 else nI (anw T i).1) ∧ I' 9 t 14 = (anw T i).2) ?_ ?_ ⟨I, none, rfl, rfl, fun _ _ _ _ => rfl, n1, n2⟩
    · rintro i Z M hi ⟨I', z2, rfl, rfl, hf, v1, v2⟩ self hself
      dsimp only [x_int, x_lng, x_ild, x_lld, x_ald, x_ist, x_ast, x_lst, x_inc, x_ii, x_id, x_i, x_ll, x_ld, x_l, x_cmp, x_i2l, x_l2i, x_if, x_ic, x_dup, x_pop, x_dup2, x_gI, x_gL, x_gR, x_g1, x_g0, x_gP, x_pI, x_pZ, x_pL, x_pP, x_al, x_as, x_all, x_asl, x_alr, x_len, x_cpy, x_m2, x_m1, x_m2l, x_m1l, x_call, x_cv, x_ri, x_rz, x_rl, x_rv, zg, zset, zbef, zlong, zcat, cond_true, cond_false, List.take, List.drop, rv1, rv2, rv3, rv4, rv5, rv6, rv7, sm0, sm1, bl0, bl1, bl2, bl3, bl4, bl5, bl6, bl7, bl8, List.nil_append, List.cons_append, List.length_cons, List.length_nil, Nat.reduceBEq, Nat.reduceAdd, Nat.reduceSub, ta, tb, tn0, tn1, tn2, tn3, tn4, tn5, tn6, tn7, tn8, tn9, tn10, tn11, tn12, bX9_findNew_46]
      refine ⟨fun c => absurd c (lt_go (n := 4096) rfl (by omega) hi), fun _ => ?_⟩
      refine p_leastC hi (hT.n hf) (fun h hh j hj => (hf 15 _ j (by omega)).trans (hg h hh j hj)) (fun v hv => ?_)
      dsimp only [x_int, x_lng, x_ild, x_lld, x_ald, x_ist, x_ast, x_lst, x_inc, x_ii, x_id, x_i, x_ll, x_ld, x_l, x_cmp, x_i2l, x_l2i, x_if, x_ic, x_dup, x_pop, x_dup2, x_gI, x_gL, x_gR, x_g1, x_g0, x_gP, x_pI, x_pZ, x_pL, x_pP, x_al, x_as, x_all, x_asl, x_alr, x_len, x_cpy, x_m2, x_m1, x_m2l, x_m1l, x_call, x_cv, x_ri, x_rz, x_rl, x_rv, zg, zset, zbef, zlong, zcat, cond_true, cond_false, List.take, List.drop, rv1, rv2, rv3, rv4, rv5, rv6, rv7, sm0, sm1, bl0, bl1, bl2, bl3, bl4, bl5, bl6, bl7, bl8, List.nil_append, List.cons_append, List.length_cons, List.length_nil, Nat.reduceBEq, Nat.reduceAdd, Nat.reduceSub, ta, tb, tn0, tn1, tn2, tn3, tn4, tn5, tn6, tn7, tn8, tn9, tn10, tn11, tn12, bX9_findNew_46]
      rw [v2] at hv ⊢
      rw [n_succ i]
      have s : anw T (i + 1) = if lst T (codK i) (T.1 0) ≤ (anw T i).2 then anw T i else (i, lst T (codK i) (T.1 0)) := rfl
      refine ⟨fun c => ?_, fun c => ?_⟩
      · have c : v ≤ (anw T i).2 := c
        have le : lst T (codK i) (T.1 0) ≤ (anw T i).2 := hv.elim (fun e => e ▸ c) (fun e => e.2)
        have i0 : ¬ i = 0 := fun e => by subst e; exact nn 0 le
        refine hself _ _ ⟨I', some (.inl v), rfl, rfl, hf, ?_, ?_⟩
        · rw [v1, if_neg i0, if_neg (by omega), s, if_pos le]
        · rw [v2, s, if_pos le]
      · have c : ¬ v ≤ (anw T i).2 := c
        have ev : v = lst T (codK i) (T.1 0) := hv.elim id (fun e => absurd e.1 c)
        obtain ⟨I2, e2, w2, f2⟩ := zsI_ex I' L P 9 t 14 v
        rw [e2]
        obtain ⟨I3, e3, w3, f3⟩ := zsI_ex I2 L P 9 t 13 (nI i)
        rw [e3]
        refine hself _ _ ⟨I3, some (.inl v), rfl, rfl, fun a b c q => ?_, ?_, ?_⟩
        · rw [f3 a b c (fun e => q ⟨e.1, e.2.1, Or.inl e.2.2⟩), f2 a b c (fun e => q ⟨e.1, e.2.1, Or.inr e.2.2⟩)]; exact hf a b c q
        · rw [w3, if_neg (by omega), s, if_neg (by rw [← ev]; exact c)]
        · rw [f3 9 t 14 (by omega), w2, s, if_neg (by rw [← ev]; exact c)]
          exact ev
    · rintro Z M ⟨I', z2, rfl, rfl, hf, v1, v2⟩ self
      dsimp only [x_int, x_lng, x_ild, x_lld, x_ald, x_ist, x_ast, x_lst, x_inc, x_ii, x_id, x_i, x_ll, x_ld, x_l, x_cmp, x_i2l, x_l2i, x_if, x_ic, x_dup, x_pop, x_dup2, x_gI, x_gL, x_gR, x_g1, x_g0, x_gP, x_pI, x_pZ, x_pL, x_pP, x_al, x_as, x_all, x_asl, x_alr, x_len, x_cpy, x_m2, x_m1, x_m2l, x_m1l, x_call, x_cv, x_ri, x_rz, x_rl, x_rv, zg, zset, zbef, zlong, zcat, cond_true, cond_false, List.take, List.drop, rv1, rv2, rv3, rv4, rv5, rv6, rv7, sm0, sm1, bl0, bl1, bl2, bl3, bl4, bl5, bl6, bl7, bl8, List.nil_append, List.cons_append, List.length_cons, List.length_nil, Nat.reduceBEq, Nat.reduceAdd, Nat.reduceSub, ta, tb, tn0, tn1, tn2, tn3, tn4, tn5, tn6, tn7, tn8, tn9, tn10, tn11, tn12]
      rw [if_neg (by decide)] at v1
      exact ⟨fun _ => hK I' hf v1 v2, fun c => absurd c (lt_out (n := 4096) rfl)⟩
  · rw [n1]
    have := anw_4 (T := T)
    exact ⟨fun c => absurd c (n_ne1 (by omega)), fun _ => hK I (fun _ _ _ _ => rfl) n1 n2⟩
theorem RC.n {A : aA} {I I' : zI} {P : zP} {t : Nat} (h : RC A I P) (h11 : P 11 0 11 = t) (hf : nwf t I I') (v1 : I' 9 t 13 = nI (anw A.T 4096).1) (v2 : I' 9 t 14 = (anw A.T 4096).2) : RC A I' P := by
  obtain ⟨t', ⟨h1, g2, g3, g4, g5⟩, h2, h3, h4, h5, h6, h7, h8, h9⟩ := h
  have : t' = t := g2.symm.trans h11
  subst this
  have e : ∀ a b c, ¬ a = 9 → I' a b c = I a b c := fun a b c q => hf a b c (fun z => q z.1)
  have hcs : ∀ {a c : Nat}, csK a c = true → ¬ a = 9 := fun {a c} q => by
    unfold csK at q
    simp only [Bool.or_eq_true, Bool.and_eq_true, Nat.ble_eq, beq_iff_eq] at q
    omega
  refine ⟨t', ⟨h1.n hf, g2, g3, fun x hx i hi => (e 15 _ i (by decide)).trans (g4 x hx i hi), Or.inr ⟨v1, v2⟩⟩, h2, h3.fr (fun a c q => e a 0 c (hcs q)), ?_, ?_, ?_, ?_, ?_, ?_⟩
  · revert h4
    unfold RCi
    have e1 : I' 11 0 14 = I 11 0 14 := e 11 0 _ (by decide)
    cases A.im with
    | none => intro h4; exact e1.trans h4
    | some S => intro h4; exact ⟨e1.trans h4.1, h4.2.1, h4.2.2.fr (fun a c q => e a 1 c (hcs q))⟩
  · obtain ⟨g1, g2, g3⟩ := h5
    refine ⟨(e 0 0 _ (by decide)).trans g1, g2, fun i hi => ?_⟩
    have e1 : (fun q => I' 13 0 (4 * i + q)) = fun q => I 13 0 (4 * i + q) := by funext q; exact e 13 0 _ (by decide)
    rw [e1]; exact g3 i hi
  · obtain ⟨g1, g2, g3, g4, g5⟩ := h6
    refine ⟨(e 3 0 _ (by decide)).trans g1, g2, (e 3 0 _ (by decide)).trans g3, g4, fun i hi => ?_⟩
    have := g5 i hi
    rw [e 18 0 i (by decide), e 19 0 i (by decide), e 20 0 i (by decide), e 21 0 i (by decide)]
    exact this
  · exact ⟨(e 11 0 _ (by decide)).trans h7.1, h7.2.1, fun i hi => by rw [e 47 0 i (by decide)]; exact h7.2.2 i hi⟩
  · exact ⟨(e 5 0 _ (by decide)).trans h8.1, (e 5 0 _ (by decide)).trans h8.2⟩
  · exact fun i hi => (e 27 0 i (by decide)).trans (h9 i hi)
-- a code's digits
def sv (i : Nat) : Int32 := if i ≤ 5 then nI (10 - 2 * i) else -2
theorem sv_s : ∀ i, i < 6 → sv i + -2 = sv (i + 1) := by decide
theorem sv_k : ∀ i, i < 6 → sv i = 10 - 2 * nI i := by decide
theorem sv_nn : ∀ i, i < 6 → ¬ sv i < 0 := by decide
theorem p_digitsCode {K : zQ} {M : zM} {c : Nat} (hc : c < 4096) (hK : K [.inl (dgn (codK c) 6)] M) : mX11_digitsOfCode K [.inl (nI c)] M := by
  show bX11_digitsOfCode_5 K [some (.inl (nI c)), some (.inl 0), some (.inl (sv 0))] [] M
  refine zfor 6 (fun i => [some (.inl (nI c)), some (.inl (dgn (codK c) i)), some (.inl (sv i))]) (fun _ => M) (fun i hi self hs => ?_) (fun self => ?_)
  · dsimp only [x_int, x_lng, x_ild, x_lld, x_ald, x_ist, x_ast, x_lst, x_inc, x_ii, x_id, x_i, x_ll, x_ld, x_l, x_cmp, x_i2l, x_l2i, x_if, x_ic, x_dup, x_pop, x_dup2, x_gI, x_gL, x_gR, x_g1, x_g0, x_gP, x_pI, x_pZ, x_pL, x_pP, x_al, x_as, x_all, x_asl, x_alr, x_len, x_cpy, x_m2, x_m1, x_m2l, x_m1l, x_call, x_cv, x_ri, x_rz, x_rl, x_rv, zg, zset, zbef, zlong, zcat, cond_true, cond_false, List.take, List.drop, rv1, rv2, rv3, rv4, rv5, rv6, rv7, sm0, sm1, bl0, bl1, bl2, bl3, bl4, bl5, bl6, bl7, bl8, List.nil_append, List.cons_append, List.length_cons, List.length_nil, Nat.reduceBEq, Nat.reduceAdd, Nat.reduceSub, ta, tb, tn0, tn1, tn2, tn3, tn4, tn5, tn6, tn7, tn8, tn9, tn10, tn11, tn12]
    refine ⟨fun q => absurd q (sv_nn i hi), fun _ => ?_⟩
    rw [sv_s i hi, sv_k i hi, cod_k i hi c hc, Int32.add_assoc, Int32.add_comm (nI _) 1, codK_1]
    exact hs
  · dsimp only [x_int, x_lng, x_ild, x_lld, x_ald, x_ist, x_ast, x_lst, x_inc, x_ii, x_id, x_i, x_ll, x_ld, x_l, x_cmp, x_i2l, x_l2i, x_if, x_ic, x_dup, x_pop, x_dup2, x_gI, x_gL, x_gR, x_g1, x_g0, x_gP, x_pI, x_pZ, x_pL, x_pP, x_al, x_as, x_all, x_asl, x_alr, x_len, x_cpy, x_m2, x_m1, x_m2l, x_m1l, x_call, x_cv, x_ri, x_rz, x_rl, x_rv, zg, zset, zbef, zlong, zcat, cond_true, cond_false, List.take, List.drop, rv1, rv2, rv3, rv4, rv5, rv6, rv7, sm0, sm1, bl0, bl1, bl2, bl3, bl4, bl5, bl6, bl7, bl8, List.nil_append, List.cons_append, List.length_cons, List.length_nil, Nat.reduceBEq, Nat.reduceAdd, Nat.reduceSub, ta, tb, tn0, tn1, tn2, tn3, tn4, tn5, tn6, tn7, tn8, tn9, tn10, tn11, tn12]
    exact ⟨fun _ => hK, fun q => absurd (show sv 6 < 0 by decide) q⟩
def v_anew (A : aA) (x : Int32) : Int32 := if okI x 0 1 then (if x = 0 then dgn (codK (anw A.T 4096).1) 6 else (anw A.T 4096).2) else -1
theorem c_anew {K : zQ} {I : zI} {L : zJ} {P : zP} {A : aA} {x : Int32} (wT : WT A.T) (hC : RC A I P) (hK : ∀ (I' : zI), RC A I' P → frX I I' L L → K [.inl (v_anew A x)] (I', L, P)) : mX11_anew K [kbR, .inl x] (I, L, P) := by
  unfold v_anew at hK
  obtain ⟨t, hT, h11, h8, hS⟩ := hC.b
  have bad : ¬ okI x 0 1 → K [.inl (-1)] (I, L, P) := fun z => by
    have hk := hK I hC frX.rf
    rw [if_neg z] at hk; exact hk
  have ht : RCt A.T I P t := by
    obtain ⟨t', h1, -⟩ := hC
    have : t' = t := h1.2.1.symm.trans h11
    subst this; exact h1
  show bX11_anew_0 K [some (.inr (.inr (11,0))), some (.inl x)] [] (I, L, P)
  unfold bX11_anew_0
  dsimp only [x_int, x_lng, x_ild, x_lld, x_ald, x_ist, x_ast, x_lst, x_inc, x_ii, x_id, x_i, x_ll, x_ld, x_l, x_cmp, x_i2l, x_l2i, x_if, x_ic, x_dup, x_pop, x_dup2, x_gI, x_gL, x_gR, x_g1, x_g0, x_gP, x_pI, x_pZ, x_pL, x_pP, x_al, x_as, x_all, x_asl, x_alr, x_len, x_cpy, x_m2, x_m1, x_m2l, x_m1l, x_call, x_cv, x_ri, x_rz, x_rl, x_rv, zg, zset, zbef, zlong, zcat, cond_true, cond_false, List.take, List.drop, rv1, rv2, rv3, rv4, rv5, rv6, rv7, sm0, sm1, bl0, bl1, bl2, bl3, bl4, bl5, bl6, bl7, bl8, List.nil_append, List.cons_append, List.length_cons, List.length_nil, Nat.reduceBEq, Nat.reduceAdd, Nat.reduceSub, ta, tb, tn0, tn1, tn2, tn3, tn4, tn5, tn6, tn7, tn8, tn9, tn10, tn11, tn12, bX11_anew_9]
  rw [h11]
  refine ⟨fun c => bad (fun z => Int32.not_lt.mpr z.1 c), fun c => ⟨fun d => ⟨hT.1, p_findNew wT ht (fun I' hf v1 v2 => ?_)⟩, fun d => bad (fun z => d z.2)⟩⟩
  have hk := hK I' (hC.n h11 hf v1 v2) ⟨fun a b c q => hf a b c (by omega), fun _ _ _ _ => rfl⟩
  rw [if_pos ⟨Int32.not_lt.mp c, d⟩] at hk
  dsimp only [x_int, x_lng, x_ild, x_lld, x_ald, x_ist, x_ast, x_lst, x_inc, x_ii, x_id, x_i, x_ll, x_ld, x_l, x_cmp, x_i2l, x_l2i, x_if, x_ic, x_dup, x_pop, x_dup2, x_gI, x_gL, x_gR, x_g1, x_g0, x_gP, x_pI, x_pZ, x_pL, x_pP, x_al, x_as, x_all, x_asl, x_alr, x_len, x_cpy, x_m2, x_m1, x_m2l, x_m1l, x_call, x_cv, x_ri, x_rz, x_rl, x_rv, zg, zset, zbef, zlong, zcat, cond_true, cond_false, List.take, List.drop, rv1, rv2, rv3, rv4, rv5, rv6, rv7, sm0, sm1, bl0, bl1, bl2, bl3, bl4, bl5, bl6, bl7, bl8, List.nil_append, List.cons_append, List.length_cons, List.length_nil, Nat.reduceBEq, Nat.reduceAdd, Nat.reduceSub, ta, tb, tn0, tn1, tn2, tn3, tn4, tn5, tn6, tn7, tn8, tn9, tn10, tn11, tn12, bX11_anew_42]
  rw [h11, v1, v2]
  refine ⟨fun e => ⟨hT.1, p_digitsCode (by have := anw_4 (T := A.T); omega) ?_⟩, fun e => ⟨hT.1, ?_⟩⟩
  · rw [if_pos e] at hk; exact hk
  · rw [if_neg e] at hk; exact hk
theorem p_layAsked {K : zQ} {I : zI} {L : zJ} {P : zP} {c : Nat} (hc : c < 4096) (hK : ∀ I' : zI, fr1 87 I I' → (∀ k, k < 6 → I' 87 0 k = codK c k) → K [] (I', L, P)) : mX12_layAsked K [refR, .inl (nI c)] (I, L, P) := by
  show bX12_layAsked_2 K [some refR, some (.inl (nI c)), some (.inl 0)] [] (I, L, P)
  refine zinv 6 (fun i Z M => ∃ (I' : zI), Z = [some refR, some (.inl (nI c)), some (.inl (nI i))] ∧ M = (I', L, P) ∧ fr1 87 I I' ∧ ∀ k, k < i → I' 87 0 k = codK c k) ?_ ?_ ⟨I, rfl, rfl, fun _ _ _ _ => rfl, fun j hj => by omega⟩
  · rintro i Z M hi ⟨I', rfl, rfl, hI, hd⟩ self hself
    dsimp only [x_int, x_lng, x_ild, x_lld, x_ald, x_ist, x_ast, x_lst, x_inc, x_ii, x_id, x_i, x_ll, x_ld, x_l, x_cmp, x_i2l, x_l2i, x_if, x_ic, x_dup, x_pop, x_dup2, x_gI, x_gL, x_gR, x_g1, x_g0, x_gP, x_pI, x_pZ, x_pL, x_pP, x_al, x_as, x_all, x_asl, x_alr, x_len, x_cpy, x_m2, x_m1, x_m2l, x_m1l, x_call, x_cv, x_ri, x_rz, x_rl, x_rv, zg, zset, zbef, zlong, zcat, cond_true, cond_false, List.take, List.drop, rv1, rv2, rv3, rv4, rv5, rv6, rv7, sm0, sm1, bl0, bl1, bl2, bl3, bl4, bl5, bl6, bl7, bl8, List.nil_append, List.cons_append, List.length_cons, List.length_nil, Nat.reduceBEq, Nat.reduceAdd, Nat.reduceSub, ta, tb, tn0, tn1, tn2, tn3, tn4, tn5, tn6, tn7, tn8, tn9, tn10, tn11, tn12, zk_87, zl_87]
    rw [cod_k i hi c hc, codK_1, n_cl (n := i) (by omega), n_succ i]
    obtain ⟨I2, e2, w2, f2⟩ := zsI_ex I' L P 87 0 i (codK c i)
    rw [e2]
    refine ⟨fun q => absurd q (lt_go (n := 6) rfl (by omega) hi), fun _ => ⟨n_zin hi (by decide), hself _ _ ⟨I2, rfl, rfl, fun a b c q => ?_, fun k hk => ?_⟩⟩⟩
    · exact (f2 a b c (fun e => q ⟨e.1, e.2.1⟩)).trans (hI a b c q)
    · by_cases e : k = i
      · subst e; exact w2
      · exact (f2 87 0 k (fun z => e z.2.2)).trans (hd k (by omega))
  · rintro Z M ⟨I', rfl, rfl, hI, hd⟩ self
    dsimp only [x_int, x_lng, x_ild, x_lld, x_ald, x_ist, x_ast, x_lst, x_inc, x_ii, x_id, x_i, x_ll, x_ld, x_l, x_cmp, x_i2l, x_l2i, x_if, x_ic, x_dup, x_pop, x_dup2, x_gI, x_gL, x_gR, x_g1, x_g0, x_gP, x_pI, x_pZ, x_pL, x_pP, x_al, x_as, x_all, x_asl, x_alr, x_len, x_cpy, x_m2, x_m1, x_m2l, x_m1l, x_call, x_cv, x_ri, x_rz, x_rl, x_rv, zg, zset, zbef, zlong, zcat, cond_true, cond_false, List.take, List.drop, rv1, rv2, rv3, rv4, rv5, rv6, rv7, sm0, sm1, bl0, bl1, bl2, bl3, bl4, bl5, bl6, bl7, bl8, List.nil_append, List.cons_append, List.length_cons, List.length_nil, Nat.reduceBEq, Nat.reduceAdd, Nat.reduceSub, ta, tb, tn0, tn1, tn2, tn3, tn4, tn5, tn6, tn7, tn8, tn9, tn10, tn11, tn12]
    exact ⟨fun _ => hK I' hI hd, fun q => absurd q (lt_out (n := 6) rfl)⟩
theorem p_leastR {K : zQ} {I : zI} {L : zJ} {P : zP} {T : aT} {g : Nat → Int32} (hT : RT I T) (hg : ∀ k, k < 6 → I 87 0 k = g k) (hK : K [.inl (lst T g (T.1 0))] (I, L, P)) : mX12_leastApart K [refR] (I, L, P) := by
  have h6 := hT.h6
  show bX12_leastApart_5 K [some refR, some (.inl 24), some (.inl 0)] [] (I, L, P)
  refine zfor (T.1 0) (fun i => [some refR, some (.inl (lst T g i)), some (.inl (nI i))]) (fun _ => (I, L, P)) (fun i hi self hs => ?_) (fun self => ?_)
  · have s : lst T g (i + 1) = if farf T g i < lst T g i then farf T g i else lst T g i := rfl
    dsimp only [x_int, x_lng, x_ild, x_lld, x_ald, x_ist, x_ast, x_lst, x_inc, x_ii, x_id, x_i, x_ll, x_ld, x_l, x_cmp, x_i2l, x_l2i, x_if, x_ic, x_dup, x_pop, x_dup2, x_gI, x_gL, x_gR, x_g1, x_g0, x_gP, x_pI, x_pZ, x_pL, x_pP, x_al, x_as, x_all, x_asl, x_alr, x_len, x_cpy, x_m2, x_m1, x_m2l, x_m1l, x_call, x_cv, x_ri, x_rz, x_rl, x_rv, zg, zset, zbef, zlong, zcat, cond_true, cond_false, List.take, List.drop, rv1, rv2, rv3, rv4, rv5, rv6, rv7, sm0, sm1, bl0, bl1, bl2, bl3, bl4, bl5, bl6, bl7, bl8, List.nil_append, List.cons_append, List.length_cons, List.length_nil, Nat.reduceBEq, Nat.reduceAdd, Nat.reduceSub, ta, tb, tn0, tn1, tn2, tn3, tn4, tn5, tn6, tn7, tn8, tn9, tn10, tn11, tn12, bX12_leastApart_31]
    refine ⟨fun q => absurd q (lt_go hT.1.1 (by omega) hi), fun _ => p_apartFrom12 hT hi hg ?_⟩
    dsimp only [x_int, x_lng, x_ild, x_lld, x_ald, x_ist, x_ast, x_lst, x_inc, x_ii, x_id, x_i, x_ll, x_ld, x_l, x_cmp, x_i2l, x_l2i, x_if, x_ic, x_dup, x_pop, x_dup2, x_gI, x_gL, x_gR, x_g1, x_g0, x_gP, x_pI, x_pZ, x_pL, x_pP, x_al, x_as, x_all, x_asl, x_alr, x_len, x_cpy, x_m2, x_m1, x_m2l, x_m1l, x_call, x_cv, x_ri, x_rz, x_rl, x_rv, zg, zset, zbef, zlong, zcat, cond_true, cond_false, List.take, List.drop, rv1, rv2, rv3, rv4, rv5, rv6, rv7, sm0, sm1, bl0, bl1, bl2, bl3, bl4, bl5, bl6, bl7, bl8, List.nil_append, List.cons_append, List.length_cons, List.length_nil, Nat.reduceBEq, Nat.reduceAdd, Nat.reduceSub, ta, tb, tn0, tn1, tn2, tn3, tn4, tn5, tn6, tn7, tn8, tn9, tn10, tn11, tn12, bX12_leastApart_31]
    rw [n_succ i]
    refine ⟨fun c => ?_, fun c => p_apartFrom12 hT hi hg ?_⟩
    · have c : lst T g i ≤ farf T g i := c
      rw [s, if_neg (Int32.not_lt.mpr c)] at hs; exact hs
    · dsimp only [x_int, x_lng, x_ild, x_lld, x_ald, x_ist, x_ast, x_lst, x_inc, x_ii, x_id, x_i, x_ll, x_ld, x_l, x_cmp, x_i2l, x_l2i, x_if, x_ic, x_dup, x_pop, x_dup2, x_gI, x_gL, x_gR, x_g1, x_g0, x_gP, x_pI, x_pZ, x_pL, x_pP, x_al, x_as, x_all, x_asl, x_alr, x_len, x_cpy, x_m2, x_m1, x_m2l, x_m1l, x_call, x_cv, x_ri, x_rz, x_rl, x_rv, zg, zset, zbef, zlong, zcat, cond_true, cond_false, List.take, List.drop, rv1, rv2, rv3, rv4, rv5, rv6, rv7, sm0, sm1, bl0, bl1, bl2, bl3, bl4, bl5, bl6, bl7, bl8, List.nil_append, List.cons_append, List.length_cons, List.length_nil, Nat.reduceBEq, Nat.reduceAdd, Nat.reduceSub, ta, tb, tn0, tn1, tn2, tn3, tn4, tn5, tn6, tn7, tn8, tn9, tn10, tn11, tn12, bX12_leastApart_31]
      have c : ¬ lst T g i ≤ farf T g i := c
      try rw [n_succ i]
      rw [s, if_pos (Int32.not_le.mp c)] at hs; exact hs
  · dsimp only [x_int, x_lng, x_ild, x_lld, x_ald, x_ist, x_ast, x_lst, x_inc, x_ii, x_id, x_i, x_ll, x_ld, x_l, x_cmp, x_i2l, x_l2i, x_if, x_ic, x_dup, x_pop, x_dup2, x_gI, x_gL, x_gR, x_g1, x_g0, x_gP, x_pI, x_pZ, x_pL, x_pP, x_al, x_as, x_all, x_asl, x_alr, x_len, x_cpy, x_m2, x_m1, x_m2l, x_m1l, x_call, x_cv, x_ri, x_rz, x_rl, x_rv, zg, zset, zbef, zlong, zcat, cond_true, cond_false, List.take, List.drop, rv1, rv2, rv3, rv4, rv5, rv6, rv7, sm0, sm1, bl0, bl1, bl2, bl3, bl4, bl5, bl6, bl7, bl8, List.nil_append, List.cons_append, List.length_cons, List.length_nil, Nat.reduceBEq, Nat.reduceAdd, Nat.reduceSub, ta, tb, tn0, tn1, tn2, tn3, tn4, tn5, tn6, tn7, tn8, tn9, tn10, tn11, tn12]
    exact ⟨fun _ => hK, fun q => absurd q (lt_out hT.1.1)⟩
theorem r_anew {K : zQ} {I : zI} {L : zJ} {P : zP} {A : aA} {x : Int32} (hR : RR A I L) (hK : ∀ (I' : zI), frR I I' → K [.inl (v_anew A x)] (I', L, P)) : mX12_anew K [refR, .inl x] (I, L, P) := by
  unfold v_anew at hK
  show bX12_anew_0 K [some (.inr (.inr (12,0))), some (.inl x), none, none, none] [] (I, L, P)
  unfold bX12_anew_0
  obtain ⟨I1, e9, hR1, f1⟩ := r_thr P hR
  dsimp only [x_ald, x_int, x_pI, zg, Nat.reduceBEq, cond_true]
  rw [e9]
  dsimp only [x_int, x_lng, x_ild, x_lld, x_ald, x_ist, x_ast, x_lst, x_inc, x_ii, x_id, x_i, x_ll, x_ld, x_l, x_cmp, x_i2l, x_l2i, x_if, x_ic, x_dup, x_pop, x_dup2, x_gI, x_gL, x_gR, x_g1, x_g0, x_gP, x_pI, x_pZ, x_pL, x_pP, x_al, x_as, x_all, x_asl, x_alr, x_len, x_cpy, x_m2, x_m1, x_m2l, x_m1l, x_call, x_cv, x_ri, x_rz, x_rl, x_rv, zg, zset, zbef, zlong, zcat, cond_true, cond_false, List.take, List.drop, rv1, rv2, rv3, rv4, rv5, rv6, rv7, sm0, sm1, bl0, bl1, bl2, bl3, bl4, bl5, bl6, bl7, bl8, List.nil_append, List.cons_append, List.length_cons, List.length_nil, Nat.reduceBEq, Nat.reduceAdd, Nat.reduceSub, ta, tb, tn0, tn1, tn2, tn3, tn4, tn5, tn6, tn7, tn8, tn9, tn10, tn11, tn12]
  refine p_isIn (fun ok => ?_) (fun no => ?_)
  · dsimp only [x_int, x_lng, x_ild, x_lld, x_ald, x_ist, x_ast, x_lst, x_inc, x_ii, x_id, x_i, x_ll, x_ld, x_l, x_cmp, x_i2l, x_l2i, x_if, x_ic, x_dup, x_pop, x_dup2, x_gI, x_gL, x_gR, x_g1, x_g0, x_gP, x_pI, x_pZ, x_pL, x_pP, x_al, x_as, x_all, x_asl, x_alr, x_len, x_cpy, x_m2, x_m1, x_m2l, x_m1l, x_call, x_cv, x_ri, x_rz, x_rl, x_rv, zg, zset, zbef, zlong, zcat, cond_true, cond_false, List.take, List.drop, rv1, rv2, rv3, rv4, rv5, rv6, rv7, sm0, sm1, bl0, bl1, bl2, bl3, bl4, bl5, bl6, bl7, bl8, List.nil_append, List.cons_append, List.length_cons, List.length_nil, Nat.reduceBEq, Nat.reduceAdd, Nat.reduceSub, ta, tb, tn0, tn1, tn2, tn3, tn4, tn5, tn6, tn7, tn8, tn9, tn10, tn11, tn12]
    refine ⟨fun z => absurd z (by decide), fun _ => ?_⟩
    refine zinv 4096 (fun i Z M => ∃ I' : zI, Z = [some refR, some (.inl x), some (.inl (nI (anw A.T i).1)), some (.inl (anw A.T i).2), some (.inl (nI i))] ∧ M = (I', L, P) ∧ frR I I') ?_ ?_ ⟨I1, rfl, rfl, f1⟩
    · rintro i Z M hi ⟨I', rfl, rfl, hf⟩ self hself
      have s : anw A.T (i + 1) = if lst A.T (codK i) (A.T.1 0) ≤ (anw A.T i).2 then anw A.T i else (i, lst A.T (codK i) (A.T.1 0)) := rfl
      dsimp only [x_int, x_lng, x_ild, x_lld, x_ald, x_ist, x_ast, x_lst, x_inc, x_ii, x_id, x_i, x_ll, x_ld, x_l, x_cmp, x_i2l, x_l2i, x_if, x_ic, x_dup, x_pop, x_dup2, x_gI, x_gL, x_gR, x_g1, x_g0, x_gP, x_pI, x_pZ, x_pL, x_pP, x_al, x_as, x_all, x_asl, x_alr, x_len, x_cpy, x_m2, x_m1, x_m2l, x_m1l, x_call, x_cv, x_ri, x_rz, x_rl, x_rv, zg, zset, zbef, zlong, zcat, cond_true, cond_false, List.take, List.drop, rv1, rv2, rv3, rv4, rv5, rv6, rv7, sm0, sm1, bl0, bl1, bl2, bl3, bl4, bl5, bl6, bl7, bl8, List.nil_append, List.cons_append, List.length_cons, List.length_nil, Nat.reduceBEq, Nat.reduceAdd, Nat.reduceSub, ta, tb, tn0, tn1, tn2, tn3, tn4, tn5, tn6, tn7, tn8, tn9, tn10, tn11, tn12, bX12_anew_56]
      refine ⟨fun q => absurd q (lt_go (n := 4096) rfl (by omega) hi), fun _ => p_layAsked hi (fun I2 hI2 hd => ?_)⟩
      have hf2 := hf.tr (fr1_R hI2)
      have hT := frR_RT hf2 hR.1
      dsimp only [x_int, x_lng, x_ild, x_lld, x_ald, x_ist, x_ast, x_lst, x_inc, x_ii, x_id, x_i, x_ll, x_ld, x_l, x_cmp, x_i2l, x_l2i, x_if, x_ic, x_dup, x_pop, x_dup2, x_gI, x_gL, x_gR, x_g1, x_g0, x_gP, x_pI, x_pZ, x_pL, x_pP, x_al, x_as, x_all, x_asl, x_alr, x_len, x_cpy, x_m2, x_m1, x_m2l, x_m1l, x_call, x_cv, x_ri, x_rz, x_rl, x_rv, zg, zset, zbef, zlong, zcat, cond_true, cond_false, List.take, List.drop, rv1, rv2, rv3, rv4, rv5, rv6, rv7, sm0, sm1, bl0, bl1, bl2, bl3, bl4, bl5, bl6, bl7, bl8, List.nil_append, List.cons_append, List.length_cons, List.length_nil, Nat.reduceBEq, Nat.reduceAdd, Nat.reduceSub, ta, tb, tn0, tn1, tn2, tn3, tn4, tn5, tn6, tn7, tn8, tn9, tn10, tn11, tn12, bX12_anew_56]
      refine p_leastR hT hd ?_
      dsimp only [x_int, x_lng, x_ild, x_lld, x_ald, x_ist, x_ast, x_lst, x_inc, x_ii, x_id, x_i, x_ll, x_ld, x_l, x_cmp, x_i2l, x_l2i, x_if, x_ic, x_dup, x_pop, x_dup2, x_gI, x_gL, x_gR, x_g1, x_g0, x_gP, x_pI, x_pZ, x_pL, x_pP, x_al, x_as, x_all, x_asl, x_alr, x_len, x_cpy, x_m2, x_m1, x_m2l, x_m1l, x_call, x_cv, x_ri, x_rz, x_rl, x_rv, zg, zset, zbef, zlong, zcat, cond_true, cond_false, List.take, List.drop, rv1, rv2, rv3, rv4, rv5, rv6, rv7, sm0, sm1, bl0, bl1, bl2, bl3, bl4, bl5, bl6, bl7, bl8, List.nil_append, List.cons_append, List.length_cons, List.length_nil, Nat.reduceBEq, Nat.reduceAdd, Nat.reduceSub, ta, tb, tn0, tn1, tn2, tn3, tn4, tn5, tn6, tn7, tn8, tn9, tn10, tn11, tn12, bX12_anew_56]
      rw [n_succ i]
      refine ⟨fun c => ?_, fun c => ?_⟩
      · have c : (anw A.T i).2 < lst A.T (codK i) (A.T.1 0) := c
        refine p_leastR hT hd ?_
        dsimp only [x_int, x_lng, x_ild, x_lld, x_ald, x_ist, x_ast, x_lst, x_inc, x_ii, x_id, x_i, x_ll, x_ld, x_l, x_cmp, x_i2l, x_l2i, x_if, x_ic, x_dup, x_pop, x_dup2, x_gI, x_gL, x_gR, x_g1, x_g0, x_gP, x_pI, x_pZ, x_pL, x_pP, x_al, x_as, x_all, x_asl, x_alr, x_len, x_cpy, x_m2, x_m1, x_m2l, x_m1l, x_call, x_cv, x_ri, x_rz, x_rl, x_rv, zg, zset, zbef, zlong, zcat, cond_true, cond_false, List.take, List.drop, rv1, rv2, rv3, rv4, rv5, rv6, rv7, sm0, sm1, bl0, bl1, bl2, bl3, bl4, bl5, bl6, bl7, bl8, List.nil_append, List.cons_append, List.length_cons, List.length_nil, Nat.reduceBEq, Nat.reduceAdd, Nat.reduceSub, ta, tb, tn0, tn1, tn2, tn3, tn4, tn5, tn6, tn7, tn8, tn9, tn10, tn11, tn12, bX12_anew_56]
        try rw [n_succ i]
        refine hself _ _ ⟨I2, ?_, rfl, hf2⟩
        rw [s, if_neg (Int32.not_le.mpr c)]
      · have c : ¬ (anw A.T i).2 < lst A.T (codK i) (A.T.1 0) := c
        refine hself _ _ ⟨I2, ?_, rfl, hf2⟩
        rw [s, if_pos (Int32.not_lt.mp c)]
    · rintro Z M ⟨I', rfl, rfl, hf⟩ self
      dsimp only [x_int, x_lng, x_ild, x_lld, x_ald, x_ist, x_ast, x_lst, x_inc, x_ii, x_id, x_i, x_ll, x_ld, x_l, x_cmp, x_i2l, x_l2i, x_if, x_ic, x_dup, x_pop, x_dup2, x_gI, x_gL, x_gR, x_g1, x_g0, x_gP, x_pI, x_pZ, x_pL, x_pP, x_al, x_as, x_all, x_asl, x_alr, x_len, x_cpy, x_m2, x_m1, x_m2l, x_m1l, x_call, x_cv, x_ri, x_rz, x_rl, x_rv, zg, zset, zbef, zlong, zcat, cond_true, cond_false, List.take, List.drop, rv1, rv2, rv3, rv4, rv5, rv6, rv7, sm0, sm1, bl0, bl1, bl2, bl3, bl4, bl5, bl6, bl7, bl8, List.nil_append, List.cons_append, List.length_cons, List.length_nil, Nat.reduceBEq, Nat.reduceAdd, Nat.reduceSub, ta, tb, tn0, tn1, tn2, tn3, tn4, tn5, tn6, tn7, tn8, tn9, tn10, tn11, tn12, bX12_anew_84]
      have := anw_4 (T := A.T)
      refine ⟨fun _ => p_layAsked (by omega) (fun I2 hI2 hd => ?_), fun q => absurd q (lt_out (n := 4096) rfl)⟩
      have hk := hK I2 (hf.tr (fr1_R hI2))
      rw [if_pos ok] at hk
      dsimp only [x_int, x_lng, x_ild, x_lld, x_ald, x_ist, x_ast, x_lst, x_inc, x_ii, x_id, x_i, x_ll, x_ld, x_l, x_cmp, x_i2l, x_l2i, x_if, x_ic, x_dup, x_pop, x_dup2, x_gI, x_gL, x_gR, x_g1, x_g0, x_gP, x_pI, x_pZ, x_pL, x_pP, x_al, x_as, x_all, x_asl, x_alr, x_len, x_cpy, x_m2, x_m1, x_m2l, x_m1l, x_call, x_cv, x_ri, x_rz, x_rl, x_rv, zg, zset, zbef, zlong, zcat, cond_true, cond_false, List.take, List.drop, rv1, rv2, rv3, rv4, rv5, rv6, rv7, sm0, sm1, bl0, bl1, bl2, bl3, bl4, bl5, bl6, bl7, bl8, List.nil_append, List.cons_append, List.length_cons, List.length_nil, Nat.reduceBEq, Nat.reduceAdd, Nat.reduceSub, ta, tb, tn0, tn1, tn2, tn3, tn4, tn5, tn6, tn7, tn8, tn9, tn10, tn11, tn12, bX12_anew_84]
      refine ⟨fun e => p_digitsR (o := 0) rfl (by decide) (by decide) ?_, fun e => ?_⟩
      · rw [if_pos e] at hk
        rw [dgn_congr (f := fun k => I2 87 0 (0 + k)) (g := codK (anw A.T 4096).1) (fun k hk => by rw [Nat.zero_add]; exact hd k hk)]
        exact hk
      · rw [if_neg e] at hk; exact hk
  · dsimp only [x_int, x_lng, x_ild, x_lld, x_ald, x_ist, x_ast, x_lst, x_inc, x_ii, x_id, x_i, x_ll, x_ld, x_l, x_cmp, x_i2l, x_l2i, x_if, x_ic, x_dup, x_pop, x_dup2, x_gI, x_gL, x_gR, x_g1, x_g0, x_gP, x_pI, x_pZ, x_pL, x_pP, x_al, x_as, x_all, x_asl, x_alr, x_len, x_cpy, x_m2, x_m1, x_m2l, x_m1l, x_call, x_cv, x_ri, x_rz, x_rl, x_rv, zg, zset, zbef, zlong, zcat, cond_true, cond_false, List.take, List.drop, rv1, rv2, rv3, rv4, rv5, rv6, rv7, sm0, sm1, bl0, bl1, bl2, bl3, bl4, bl5, bl6, bl7, bl8, List.nil_append, List.cons_append, List.length_cons, List.length_nil, Nat.reduceBEq, Nat.reduceAdd, Nat.reduceSub, ta, tb, tn0, tn1, tn2, tn3, tn4, tn5, tn6, tn7, tn8, tn9, tn10, tn11, tn12]
    have hk := hK I1 f1
    rw [if_neg no] at hk
    exact ⟨fun _ => hk, fun z => absurd rfl z⟩
