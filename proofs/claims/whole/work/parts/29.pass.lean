def frS (j : Nat) (I I' : zI) : Prop := ∀ a b c, ¬ ((Nat.ble 31 a && Nat.ble a 41) = true ∧ b = j) → ¬ (a = 8 ∧ b = j) → I' a b c = I a b c
theorem frS.rf {j : Nat} {I : zI} : frS j I I := fun _ _ _ _ _ => rfl
theorem frS.tr {j : Nat} {I I1 I2 : zI} (h : frS j I I1) (h2 : frS j I1 I2) : frS j I I2 := fun a b c q1 q2 => (h2 a b c q1 q2).trans (h a b c q1 q2)
theorem frS.T {j : Nat} {I I' : zI} {t : Nat} {T : aT} (h : frS j I I') (hT : CT I t T) : CT I' t T := hT.fr (fun a b c q => h a b c (fun e => by
    have h1 := e.1
    revert q h1
    unfold ctK
    intro q h1
    simp only [Bool.or_eq_true, beq_iff_eq] at q
    rcases q with q | q | q | q | q | q | q <;> rw [q] at h1 <;> exact absurd h1 (by decide)) (fun e => by rw [e.1] at q; exact absurd q (by decide)))
theorem zeL2.tr {L L1 L2 : zJ} (h : zeL2 L L1) (h2 : zeL2 L1 L2) : zeL2 L L2 := fun a b c q1 q2 => (h2 a b c q1 q2).trans (h a b c q1 q2)
def aRaps (T : aT) (dr : Bool) : Nat → aS → aS
  | 0, S => S
  | n + 1, S => if aRaps T dr n S 5 n = 0 ∧ aRaps T dr n S 4 n = aRaps T dr n S 9 0 ∧ ¬ T.2.1 8 n = aRaps T dr n S 14 0 then aRap T (aRaps T dr n S) n (hnd T n) (wod (aRaps T dr n S) n) dr else aRaps T dr n S
def aDay (T : aT) (dr fd : Bool) (S : aS) : aS := su (aRaps T dr (T.1 2) (if fd then aFade T S (T.1 2) else S)) 9 0 (aRaps T dr (T.1 2) (if fd then aFade T S (T.1 2) else S) 9 0 + 1)
def aPass (T : aT) (dr fd : Bool) : Nat → aS → aS
  | 0, S => S
  | n + 1, S => aDay T dr fd (aPass T dr fd n S)
theorem aRap_3 {T : aT} {S : aS} {r h w : Nat} {dr : Bool} {i : Nat} : aRap T S r h w dr 3 i = S 3 i := by simp [aRap]
theorem aRaps_3 {T : aT} {S : aS} {dr : Bool} {i : Nat} : ∀ n, aRaps T dr n S 3 i = S 3 i := by
  intro n
  induction n with
  | zero => rfl
  | succ n ih =>
    unfold aRaps
    split
    · rw [aRap_3]; exact ih
    · exact ih
theorem aDay_3 {T : aT} {S : aS} {dr fd : Bool} {i : Nat} : aDay T dr fd S 3 i = S 3 i := by
  unfold aDay
  show aRaps _ _ _ _ 3 i = _
  rw [aRaps_3]
  cases fd
  · rfl
  · exact aFade_ne (T := T) (S := S) (n := T.1 2) (f := 3) (by decide)
theorem aPass_3 {T : aT} {S : aS} {dr fd : Bool} {i : Nat} : ∀ n, aPass T dr fd n S 3 i = S 3 i := by
  intro n
  induction n with
  | zero => rfl
  | succ n ih => unfold aPass; rw [aDay_3]; exact ih
theorem WS.of3 {T : aT} {S S' : aS} (h : WS T S) (e : ∀ i, S' 3 i = S 3 i) : WS T S' := fun r hr => by rw [e]; exact h r hr
theorem CS.day {M M' : zI} {j : Nat} {T : aT} {S : aS} {v : Int32} (h : CS M j T S) (e : ∀ a c, csK a c = true → ¬ (a = 8 ∧ c = 13) → M' a j c = M a j c) (ev : M' 8 j 13 = v) : CS M' j T (su S 9 0 v) := by
  have e31 : ∀ c, M' 31 j c = M 31 j c := fun c => e 31 c rfl (by simp)
  have e32 : ∀ c, M' 32 j c = M 32 j c := fun c => e 32 c rfl (by simp)
  have e33 : ∀ c, M' 33 j c = M 33 j c := fun c => e 33 c rfl (by simp)
  have e34 : ∀ c, M' 34 j c = M 34 j c := fun c => e 34 c rfl (by simp)
  have e35 : ∀ c, M' 35 j c = M 35 j c := fun c => e 35 c rfl (by simp)
  have e36 : ∀ c, M' 36 j c = M 36 j c := fun c => e 36 c rfl (by simp)
  have e37 : ∀ c, M' 37 j c = M 37 j c := fun c => e 37 c rfl (by simp)
  have e38 : ∀ c, M' 38 j c = M 38 j c := fun c => e 38 c rfl (by simp)
  have e39 : ∀ c, M' 39 j c = M 39 j c := fun c => e 39 c rfl (by simp)
  have e40 : ∀ c, M' 40 j c = M 40 j c := fun c => e 40 c rfl (by simp)
  have f2 : M' 8 j 14 = M 8 j 14 := e 8 _ rfl (by simp)
  have f3 : M' 8 j 15 = M 8 j 15 := e 8 _ rfl (by simp)
  have f4 : M' 8 j 16 = M 8 j 16 := e 8 _ rfl (by simp)
  have f5 : M' 8 j 17 = M 8 j 17 := e 8 _ rfl (by simp)
  obtain ⟨a1, a2, a3, a4, a5, a6, a7, a8⟩ := h
  have g : ∀ f i, ¬ f = 9 → su S 9 0 v f i = S f i := fun f i q => by simp [su, q]
  have g8 : (su S 9 0 v) 8 = S 8 := by funext i; exact g 8 i (by decide)
  have g7 : (su S 9 0 v) 7 = S 7 := by funext i; exact g 7 i (by decide)
  refine ⟨fun x hx => ?_, fun x hx => ?_, fun x hx => ?_, ?_, ?_, ?_, ?_, ?_⟩
  · rw [e31, e32, e33, g 0 x (by decide), g 1 x (by decide), g 11 x (by decide)]; exact a1 x hx
  · rw [e34, e35, g 12 x (by decide), g 2 x (by decide)]; exact a2 x hx
  · rw [e36, e37, e38, e39, e40, g 3 x (by decide), g 4 x (by decide), g 5 x (by decide), g 6 x (by decide), g8]; exact a3 x hx
  · rw [ev]; simp [su]
  · rw [f2, g 10 0 (by decide)]; exact a5
  · rw [f3, g 13 0 (by decide)]; exact a6
  · rw [f4, g 14 0 (by decide)]; exact a7
  · rw [f5, g7]; exact a8
theorem p_pass {K : zQ} {I : zI} {L : zJ} {P : zP} {j t : Nat} {T : aT} {S : aS} {n : Nat} {dI fI : Int32} {dr fd : Bool} (hn : n < 2147483648) (hdr : (dI = 0 ∧ dr = false) ∨ (¬ dI = 0 ∧ dr = true)) (hfd : (fI = 0 ∧ fd = false) ∨ (¬ fI = 0 ∧ fd = true)) (ht : P 8 j 0 = t) (hT : CT I t T) (hS : CS I j T S) (wT : WT T) (wS : WS T S)
    (hK : ∀ (I' : zI) (L' : zJ), zeL2 L L' → frS j I I' → CS I' j T (aPass T dr fd n S) → K [] (I', L', P)) : mX8_pass K [.inr (.inr (8, j)), .inl (nI n), .inl dI, .inl fI] (I, L, P) := by
  have h6 := hT.h6
  have w4 := hT.w4
  have r10 := hT.r10
  have hp : P 8 j 0 < 2 := by rw [ht]; exact hT.1
  show bX8_pass_3 K [some (.inr (.inr (8, j))), some (.inl (nI n)), some (.inl dI), some (.inl fI), some (.inl 0), none, none] [] (I, L, P)
  refine zinv n (fun i Z M => ∃ (I' : zI) (L' : zJ) (z5 z6 : Option zV), Z = [some (.inr (.inr (8, j))), some (.inl (nI n)), some (.inl dI), some (.inl fI), some (.inl (nI i)), z5, z6] ∧ M = (I', L', P) ∧ zeL2 L L' ∧ frS j I I' ∧ CS I' j T (aPass T dr fd i S)) ?_ ?_ ⟨I, L, none, none, rfl, rfl, fun _ _ _ _ _ => rfl, frS.rf, hS⟩
  · rintro i Z M hi ⟨I', L', z5, z6, rfl, rfl, hL, hI, hS'⟩ self hself
    have hT' : CT I' t T := hI.T hT
    have wS' : WS T (aPass T dr fd i S) := wS.of3 (fun q => aPass_3 i)
    -- the raps of the day
    have inner : ∀ (I1 : zI) (L1 : zJ) (z5 z6 : Option zV), zeL2 L L1 → frS j I I1 → CS I1 j T (if fd then aFade T (aPass T dr fd i S) (T.1 2) else aPass T dr fd i S) → bX8_pass_20 K self [some (.inr (.inr (8, j))), some (.inl (nI n)), some (.inl dI), some (.inl fI), some (.inl (nI i)), some (.inl 0), z6] [] (I1, L1, P) := by
      intro I1 L1 z5 z6 hL1 hI1 hS1
      have e9 : aPass T dr fd (i + 1) S = su (aRaps T dr (T.1 2) (if fd then aFade T (aPass T dr fd i S) (T.1 2) else aPass T dr fd i S)) 9 0 (aRaps T dr (T.1 2) (if fd then aFade T (aPass T dr fd i S) (T.1 2) else aPass T dr fd i S) 9 0 + 1) := rfl
      have wS1 : WS T (if fd then aFade T (aPass T dr fd i S) (T.1 2) else aPass T dr fd i S) := wS'.of3 (fun q => by cases fd; exact rfl; exact aFade_ne (T := T) (S := aPass T dr true i S) (n := T.1 2) (f := 3) (by decide))
      generalize (if fd then aFade T (aPass T dr fd i S) (T.1 2) else aPass T dr fd i S) = S0 at hS1 e9 wS1
      refine zinv (T.1 2) (fun r Z M => ∃ (I2 : zI) (L2 : zJ) (z6 : Option zV), Z = [some (.inr (.inr (8, j))), some (.inl (nI n)), some (.inl dI), some (.inl fI), some (.inl (nI i)), some (.inl (nI r)), z6] ∧ M = (I2, L2, P) ∧ zeL2 L L2 ∧ frS j I I2 ∧ CS I2 j T (aRaps T dr r S0)) ?_ ?_ ⟨I1, L1, z6, rfl, rfl, hL1, hI1, hS1⟩
      · rintro r Z M hr ⟨I2, L2, z6, rfl, rfl, hL2, hI2, hS2⟩ self2 hself2
        have hT2 : CT I2 t T := hI2.T hT
        have wS2 : WS T (aRaps T dr r S0) := wS1.of3 (fun q => aRaps_3 r)
        obtain ⟨hh, eh⟩ := wT.h h6 hr
        obtain ⟨hw, ew⟩ := wS2.w w4 hr
        have zr : zin (nI r) 10 := n_zin (by omega) (by decide)
        obtain ⟨c1, c2, c3, c4, c5⟩ := hS2.2.2.1 r hr
        have skip : ∀ (z6 : Option zV), ¬ (aRaps T dr r S0 5 r = 0 ∧ aRaps T dr r S0 4 r = aRaps T dr r S0 9 0 ∧ ¬ T.2.1 8 r = aRaps T dr r S0 14 0) → self2 [some (.inr (.inr (8, j))), some (.inl (nI n)), some (.inl dI), some (.inl fI), some (.inl (nI i)), some (.inl (nI r + 1)), z6] [] (I2, L2, P) := fun z6 h1 => by
          rw [n_succ]
          refine hself2 _ _ ⟨I2, L2, z6, rfl, rfl, hL2, hI2, ?_⟩
          show CS I2 j T (if _ then _ else _)
          rw [if_neg h1]; exact hS2
        dsimp only [x_int, x_lng, x_ild, x_lld, x_ald, x_ist, x_ast, x_lst, x_inc, x_ii, x_id, x_i, x_ll, x_ld, x_l, x_cmp, x_i2l, x_l2i, x_if, x_ic, x_dup, x_pop, x_dup2, x_gI, x_gL, x_gR, x_g1, x_g0, x_gP, x_pI, x_pZ, x_pL, x_pP, x_al, x_as, x_all, x_asl, x_alr, x_len, x_cpy, x_m2, x_m1, x_m2l, x_m1l, x_call, x_cv, x_ri, x_rz, x_rl, x_rv, zg, zset, zbef, zlong, zcat, cond_true, cond_false, List.take, List.drop, rv1, rv2, rv3, rv4, rv5, rv6, rv7, sm0, sm1, bl0, bl1, bl2, bl3, bl4, bl5, bl6, bl7, bl8, List.nil_append, List.cons_append, List.length_cons, List.length_nil, Nat.reduceBEq, Nat.reduceAdd, Nat.reduceSub, ta, tb, tn0, tn1, tn2, tn3, tn4, tn5, tn6, tn7, tn8, tn9, tn10, tn11, tn12, zk_38, zl_38, zk_37, zl_37, bX8_pass_60, bX8_pass_61, bX8_pass_95]
        rw [ht, n_cl (n := r) (by omega), c3, c2, hT2.2.1.2.2, hS2.2.2.2.1, hS2.2.2.2.2.2.2.1, (hT2.rap hr).1]
        refine ⟨hT.1, fun c => absurd c (lt_go rfl (by omega) hr), fun _ => ⟨zr, fun d1 => ⟨zr, fun d2 => ?_, fun d2 => ?_⟩, fun d1 => ?_⟩⟩
        · refine ⟨fun q => absurd q (by decide), fun _ => ⟨hT.1, zr, fun d3 => skip _ (fun q => q.2.2 d3), fun d3 => ?_⟩⟩
          refine p_rapOnce hdr ht hT2 hS2 hr hh hw eh ew (fun I3 L3 hL3 hI3 hS3 => ?_)
          dsimp only [x_int, x_lng, x_ild, x_lld, x_ald, x_ist, x_ast, x_lst, x_inc, x_ii, x_id, x_i, x_ll, x_ld, x_l, x_cmp, x_i2l, x_l2i, x_if, x_ic, x_dup, x_pop, x_dup2, x_gI, x_gL, x_gR, x_g1, x_g0, x_gP, x_pI, x_pZ, x_pL, x_pP, x_al, x_as, x_all, x_asl, x_alr, x_len, x_cpy, x_m2, x_m1, x_m2l, x_m1l, x_call, x_cv, x_ri, x_rz, x_rl, x_rv, zg, zset, zbef, zlong, zcat, cond_true, cond_false, List.take, List.drop, rv1, rv2, rv3, rv4, rv5, rv6, rv7, sm0, sm1, bl0, bl1, bl2, bl3, bl4, bl5, bl6, bl7, bl8, List.nil_append, List.cons_append, List.length_cons, List.length_nil, Nat.reduceBEq, Nat.reduceAdd, Nat.reduceSub, ta, tb, tn0, tn1, tn2, tn3, tn4, tn5, tn6, tn7, tn8, tn9, tn10, tn11, tn12]
          rw [n_succ]
          refine hself2 _ _ ⟨I3, L3, _, rfl, rfl, hL2.tr hL3, hI2.tr hI3, ?_⟩
          show CS I3 j T (if _ then _ else _)
          rw [if_pos ⟨d1, d2, d3⟩]; exact hS3
        · exact ⟨fun _ => skip _ (fun q => d2 q.2.1), fun q => absurd rfl q⟩
        · exact ⟨fun _ => skip _ (fun q => d1 q.1), fun q => absurd rfl q⟩
      · rintro Z M ⟨I2, L2, z6, rfl, rfl, hL2, hI2, hS2⟩ self2
        have hT2 : CT I2 t T := hI2.T hT
        dsimp only [x_int, x_lng, x_ild, x_lld, x_ald, x_ist, x_ast, x_lst, x_inc, x_ii, x_id, x_i, x_ll, x_ld, x_l, x_cmp, x_i2l, x_l2i, x_if, x_ic, x_dup, x_pop, x_dup2, x_gI, x_gL, x_gR, x_g1, x_g0, x_gP, x_pI, x_pZ, x_pL, x_pP, x_al, x_as, x_all, x_asl, x_alr, x_len, x_cpy, x_m2, x_m1, x_m2l, x_m1l, x_call, x_cv, x_ri, x_rz, x_rl, x_rv, zg, zset, zbef, zlong, zcat, cond_true, cond_false, List.take, List.drop, rv1, rv2, rv3, rv4, rv5, rv6, rv7, sm0, sm1, bl0, bl1, bl2, bl3, bl4, bl5, bl6, bl7, bl8, List.nil_append, List.cons_append, List.length_cons, List.length_nil, Nat.reduceBEq, Nat.reduceAdd, Nat.reduceSub, ta, tb, tn0, tn1, tn2, tn3, tn4, tn5, tn6, tn7, tn8, tn9, tn10, tn11, tn12]
        rw [ht]
        refine ⟨hT.1, fun _ => ?_, fun c => absurd c (lt_out hT2.2.1.2.2)⟩
        rw [n_succ, hS2.2.2.2.1]
        refine hself _ _ ⟨_, L2, _, _, rfl, rfl, hL2, fun a b c q1 q2 => ?_, ?_⟩
        · show (if a = 8 ∧ b = j ∧ c = 13 then _ else I2 a b c) = _
          rw [if_neg (fun e => q2 ⟨e.1, e.2.1⟩)]; exact hI2 a b c q1 q2
        · rw [e9]
          refine hS2.day (fun a c q1 q2 => ?_) ?_
          · show (if a = 8 ∧ j = j ∧ c = 13 then _ else I2 a j c) = _
            rw [if_neg (fun e => q2 ⟨e.1, e.2.2⟩)]
          · show (if 8 = 8 ∧ j = j ∧ 13 = 13 then _ else _) = _
            rw [if_pos ⟨rfl, rfl, rfl⟩]
    dsimp only [x_int, x_lng, x_ild, x_lld, x_ald, x_ist, x_ast, x_lst, x_inc, x_ii, x_id, x_i, x_ll, x_ld, x_l, x_cmp, x_i2l, x_l2i, x_if, x_ic, x_dup, x_pop, x_dup2, x_gI, x_gL, x_gR, x_g1, x_g0, x_gP, x_pI, x_pZ, x_pL, x_pP, x_al, x_as, x_all, x_asl, x_alr, x_len, x_cpy, x_m2, x_m1, x_m2l, x_m1l, x_call, x_cv, x_ri, x_rz, x_rl, x_rv, zg, zset, zbef, zlong, zcat, cond_true, cond_false, List.take, List.drop, rv1, rv2, rv3, rv4, rv5, rv6, rv7, sm0, sm1, bl0, bl1, bl2, bl3, bl4, bl5, bl6, bl7, bl8, List.nil_append, List.cons_append, List.length_cons, List.length_nil, Nat.reduceBEq, Nat.reduceAdd, Nat.reduceSub, ta, tb, tn0, tn1, tn2, tn3, tn4, tn5, tn6, tn7, tn8, tn9, tn10, tn11, tn12, bX8_pass_17]
    refine ⟨fun c => absurd c (lt_go rfl hn hi), fun _ => ⟨fun c => ?_, fun c => ?_⟩⟩
    · rcases hfd with ⟨f1, f2⟩ | ⟨f1, f2⟩
      · subst f2
        exact inner I' L' z5 z6 hL hI hS'
      · exact absurd c f1
    · rcases hfd with ⟨f1, f2⟩ | ⟨f1, f2⟩
      · exact absurd f1 c
      · subst f2
        refine p_fadeAll ht hT' hS' wT wS' (fun I1 L1 hL1 hI1 hS1 => ?_)
        dsimp only [x_int, x_lng, x_ild, x_lld, x_ald, x_ist, x_ast, x_lst, x_inc, x_ii, x_id, x_i, x_ll, x_ld, x_l, x_cmp, x_i2l, x_l2i, x_if, x_ic, x_dup, x_pop, x_dup2, x_gI, x_gL, x_gR, x_g1, x_g0, x_gP, x_pI, x_pZ, x_pL, x_pP, x_al, x_as, x_all, x_asl, x_alr, x_len, x_cpy, x_m2, x_m1, x_m2l, x_m1l, x_call, x_cv, x_ri, x_rz, x_rl, x_rv, zg, zset, zbef, zlong, zcat, cond_true, cond_false, List.take, List.drop, rv1, rv2, rv3, rv4, rv5, rv6, rv7, sm0, sm1, bl0, bl1, bl2, bl3, bl4, bl5, bl6, bl7, bl8, List.nil_append, List.cons_append, List.length_cons, List.length_nil, Nat.reduceBEq, Nat.reduceAdd, Nat.reduceSub, ta, tb, tn0, tn1, tn2, tn3, tn4, tn5, tn6, tn7, tn8, tn9, tn10, tn11, tn12]
        exact inner I1 L1 z5 z6 (hL.tr hL1) (hI.tr (fun a b c q1 q2 => hI1 a b c q2)) hS1
  · rintro Z M ⟨I', L', z5, z6, rfl, rfl, hL, hI, hS'⟩ self
    dsimp only [x_int, x_lng, x_ild, x_lld, x_ald, x_ist, x_ast, x_lst, x_inc, x_ii, x_id, x_i, x_ll, x_ld, x_l, x_cmp, x_i2l, x_l2i, x_if, x_ic, x_dup, x_pop, x_dup2, x_gI, x_gL, x_gR, x_g1, x_g0, x_gP, x_pI, x_pZ, x_pL, x_pP, x_al, x_as, x_all, x_asl, x_alr, x_len, x_cpy, x_m2, x_m1, x_m2l, x_m1l, x_call, x_cv, x_ri, x_rz, x_rl, x_rv, zg, zset, zbef, zlong, zcat, cond_true, cond_false, List.take, List.drop, rv1, rv2, rv3, rv4, rv5, rv6, rv7, sm0, sm1, bl0, bl1, bl2, bl3, bl4, bl5, bl6, bl7, bl8, List.nil_append, List.cons_append, List.length_cons, List.length_nil, Nat.reduceBEq, Nat.reduceAdd, Nat.reduceSub, ta, tb, tn0, tn1, tn2, tn3, tn4, tn5, tn6, tn7, tn8, tn9, tn10, tn11, tn12]
    exact ⟨fun _ => hK I' L' hL hI hS', fun c => absurd c (lt_out rfl)⟩
