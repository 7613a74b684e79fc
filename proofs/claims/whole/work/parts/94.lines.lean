theorem p_measure {K : zQ} {I : zI} {L : zJ} {P : zP} {T : aT} {x h : Nat} (hb : ∀ k, k < 6 → I 14 x k = T.2.1 3 (6 * h + k)) (hK : ∀ I' : zI, (∀ a b c, ¬ (a = 15 ∧ b = x) → I' a b c = I a b c) → (∀ i, i < 128 → I' 15 x i = gapv T h i) → K [] (I', L, P)) : mX1_measure K [.inr (.inr (1, x))] (I, L, P) := by
  show bX1_measure_2 K [some (.inr (.inr (1, x))), some (.inl 0), none, none, none] [] (I, L, P)
  refine zinv 128 (fun i Z M => ∃ (I' : zI) (z2 z3 z4 : Option zV), Z = [some (.inr (.inr (1, x))), some (.inl (nI i)), z2, z3, z4] ∧ M = (I', L, P) ∧ (∀ a b c, ¬ (a = 15 ∧ b = x) → I' a b c = I a b c) ∧ ∀ j, j < i → I' 15 x j = gapv T h j) ?_ ?_ ⟨I, none, none, none, rfl, rfl, fun _ _ _ _ => rfl, fun j hj => by omega⟩
  · rintro i Z M hi ⟨I', z2, z3, z4, rfl, rfl, hI, hd⟩ self hself
    have inner : ∀ f : Nat, f = (if i < 64 then 0 else 3) → bX1_measure_26 K self [some (.inr (.inr (1, x))), some (.inl (nI i)), some (.inl (nI f)), some (.inl 0), some (.inl 0)] [] (I', L, P) := fun f hf => by
      have f3 : f ≤ 3 := by rw [hf]; split <;> omega
      refine zinv 3 (fun k Z M => Z = [some (.inr (.inr (1, x))), some (.inl (nI i)), some (.inl (nI f)), some (.inl (apn (fun k => T.2.1 3 (6 * h + (f + k)) - beH i k) k)), some (.inl (nI k))] ∧ M = (I', L, P)) ?_ ?_ ⟨rfl, rfl⟩
      · rintro k Z M hk ⟨rfl, rfl⟩ self2 hself2
        dsimp only [x_int, x_lng, x_ild, x_lld, x_ald, x_ist, x_ast, x_lst, x_inc, x_ii, x_id, x_i, x_ll, x_ld, x_l, x_cmp, x_i2l, x_l2i, x_if, x_ic, x_dup, x_pop, x_dup2, x_gI, x_gL, x_gR, x_g1, x_g0, x_gP, x_pI, x_pZ, x_pL, x_pP, x_al, x_as, x_all, x_asl, x_alr, x_len, x_cpy, x_m2, x_m1, x_m2l, x_m1l, x_call, x_cv, x_ri, x_rz, x_rl, x_rv, zg, zset, zbef, zlong, zcat, cond_true, cond_false, List.take, List.drop, rv1, rv2, rv3, rv4, rv5, rv6, rv7, sm0, sm1, bl0, bl1, bl2, bl3, bl4, bl5, bl6, bl7, bl8, List.nil_append, List.cons_append, List.length_cons, List.length_nil, Nat.reduceBEq, Nat.reduceAdd, Nat.reduceSub, ta, tb, tn0, tn1, tn2, tn3, tn4, tn5, tn6, tn7, tn8, tn9, tn10, tn11, tn12, zk_14, zl_14]
        rw [n_add, n_cl (n := f + k) (by omega), hI 14 x _ (by omega), hb _ (by omega)]
        refine ⟨fun q => absurd q (lt_go (n := 3) rfl (by omega) hk), fun _ => ⟨n_zin (by omega) (by decide), p_beatOfHalf hi hk ?_⟩⟩
        dsimp only [x_int, x_lng, x_ild, x_lld, x_ald, x_ist, x_ast, x_lst, x_inc, x_ii, x_id, x_i, x_ll, x_ld, x_l, x_cmp, x_i2l, x_l2i, x_if, x_ic, x_dup, x_pop, x_dup2, x_gI, x_gL, x_gR, x_g1, x_g0, x_gP, x_pI, x_pZ, x_pL, x_pP, x_al, x_as, x_all, x_asl, x_alr, x_len, x_cpy, x_m2, x_m1, x_m2l, x_m1l, x_call, x_cv, x_ri, x_rz, x_rl, x_rv, zg, zset, zbef, zlong, zcat, cond_true, cond_false, List.take, List.drop, rv1, rv2, rv3, rv4, rv5, rv6, rv7, sm0, sm1, bl0, bl1, bl2, bl3, bl4, bl5, bl6, bl7, bl8, List.nil_append, List.cons_append, List.length_cons, List.length_nil, Nat.reduceBEq, Nat.reduceAdd, Nat.reduceSub, ta, tb, tn0, tn1, tn2, tn3, tn4, tn5, tn6, tn7, tn8, tn9, tn10, tn11, tn12]
        rw [n_succ k]
        exact hself2 _ _ ⟨rfl, rfl⟩
      · rintro Z M ⟨rfl, rfl⟩ self2
        dsimp only [x_int, x_lng, x_ild, x_lld, x_ald, x_ist, x_ast, x_lst, x_inc, x_ii, x_id, x_i, x_ll, x_ld, x_l, x_cmp, x_i2l, x_l2i, x_if, x_ic, x_dup, x_pop, x_dup2, x_gI, x_gL, x_gR, x_g1, x_g0, x_gP, x_pI, x_pZ, x_pL, x_pP, x_al, x_as, x_all, x_asl, x_alr, x_len, x_cpy, x_m2, x_m1, x_m2l, x_m1l, x_call, x_cv, x_ri, x_rz, x_rl, x_rv, zg, zset, zbef, zlong, zcat, cond_true, cond_false, List.take, List.drop, rv1, rv2, rv3, rv4, rv5, rv6, rv7, sm0, sm1, bl0, bl1, bl2, bl3, bl4, bl5, bl6, bl7, bl8, List.nil_append, List.cons_append, List.length_cons, List.length_nil, Nat.reduceBEq, Nat.reduceAdd, Nat.reduceSub, ta, tb, tn0, tn1, tn2, tn3, tn4, tn5, tn6, tn7, tn8, tn9, tn10, tn11, tn12, zk_15, zl_15]
        rw [n_cl (n := i) (by omega), n_succ i]
        obtain ⟨I2, e2, w2, f2⟩ := zsI_ex I' L P 15 x i (apn (fun k => T.2.1 3 (6 * h + (f + k)) - beH i k) 3)
        rw [e2]
        refine ⟨fun _ => ⟨n_zin hi (by decide), hself _ _ ⟨I2, _, _, _, rfl, rfl, fun a b c q => ?_, fun j hj => ?_⟩⟩, fun q => absurd q (lt_out (n := 3) rfl)⟩
        · exact (f2 a b c (fun e => q ⟨e.1, e.2.1⟩)).trans (hI a b c q)
        · by_cases e : j = i
          · subst e; rw [w2, hf]; rfl
          · exact (f2 15 x j (fun z => e z.2.2)).trans (hd j (by omega))
    dsimp only [x_int, x_lng, x_ild, x_lld, x_ald, x_ist, x_ast, x_lst, x_inc, x_ii, x_id, x_i, x_ll, x_ld, x_l, x_cmp, x_i2l, x_l2i, x_if, x_ic, x_dup, x_pop, x_dup2, x_gI, x_gL, x_gR, x_g1, x_g0, x_gP, x_pI, x_pZ, x_pL, x_pP, x_al, x_as, x_all, x_asl, x_alr, x_len, x_cpy, x_m2, x_m1, x_m2l, x_m1l, x_call, x_cv, x_ri, x_rz, x_rl, x_rv, zg, zset, zbef, zlong, zcat, cond_true, cond_false, List.take, List.drop, rv1, rv2, rv3, rv4, rv5, rv6, rv7, sm0, sm1, bl0, bl1, bl2, bl3, bl4, bl5, bl6, bl7, bl8, List.nil_append, List.cons_append, List.length_cons, List.length_nil, Nat.reduceBEq, Nat.reduceAdd, Nat.reduceSub, ta, tb, tn0, tn1, tn2, tn3, tn4, tn5, tn6, tn7, tn8, tn9, tn10, tn11, tn12, bX1_measure_20]
    refine ⟨fun q => absurd q (lt_go (n := 128) rfl (by omega) hi), fun _ => ⟨fun c => ?_, fun c => ?_⟩⟩
    · have c : nI 64 ≤ nI i := c
      rw [n_le (by omega) (by omega)] at c
      exact inner 3 (by rw [if_neg (by omega)])
    · have c : ¬ nI 64 ≤ nI i := c
      rw [n_le (by omega) (by omega)] at c
      exact inner 0 (by rw [if_pos (by omega)])
  · rintro Z M ⟨I', z3, z4, z5, rfl, rfl, hI, hd⟩ self
    dsimp only [x_int, x_lng, x_ild, x_lld, x_ald, x_ist, x_ast, x_lst, x_inc, x_ii, x_id, x_i, x_ll, x_ld, x_l, x_cmp, x_i2l, x_l2i, x_if, x_ic, x_dup, x_pop, x_dup2, x_gI, x_gL, x_gR, x_g1, x_g0, x_gP, x_pI, x_pZ, x_pL, x_pP, x_al, x_as, x_all, x_asl, x_alr, x_len, x_cpy, x_m2, x_m1, x_m2l, x_m1l, x_call, x_cv, x_ri, x_rz, x_rl, x_rv, zg, zset, zbef, zlong, zcat, cond_true, cond_false, List.take, List.drop, rv1, rv2, rv3, rv4, rv5, rv6, rv7, sm0, sm1, bl0, bl1, bl2, bl3, bl4, bl5, bl6, bl7, bl8, List.nil_append, List.cons_append, List.length_cons, List.length_nil, Nat.reduceBEq, Nat.reduceAdd, Nat.reduceSub, ta, tb, tn0, tn1, tn2, tn3, tn4, tn5, tn6, tn7, tn8, tn9, tn10, tn11, tn12]
    exact ⟨fun _ => hK I' hI hd, fun q => absurd q (lt_out (n := 128) rfl)⟩
-- what is changed while one reads: the reader's own, the draft's
def dK (d a b : Nat) : Prop := (b = 0 ∧ (a = 5 ∨ a = 7 ∨ a = 23 ∨ a = 24 ∨ a = 28 ∨ a = 29 ∨ a = 30)) ∨ (a = 9 ∧ b = d) ∨ ((a = 1 ∨ a = 14 ∨ a = 15) ∧ 6 * d ≤ b ∧ b < 6 * d + 6) ∨ (a = 10 ∧ 4 * d ≤ b ∧ b < 4 * d + 4) ∨ (a = 4 ∧ 10 * d ≤ b ∧ b < 10 * d + 10) ∨ ((a = 2 ∨ a = 16) ∧ 3 * d ≤ b ∧ b < 3 * d + 3)
def frD (d : Nat) (I I' : zI) : Prop := ∀ a b c, ¬ dK d a b → I' a b c = I a b c
theorem frD.rf {d : Nat} {I : zI} : frD d I I := fun _ _ _ _ => rfl
theorem frD.tr {d : Nat} {I I1 I2 : zI} (h : frD d I I1) (h2 : frD d I1 I2) : frD d I I2 := fun a b c q => (h2 a b c q).trans (h a b c q)
theorem frRd.D {d : Nat} {I I' : zI} (h : frRd I I') : frD d I I' := fun a b c q => h a b c (fun e => q (by unfold dK; omega))
/-- the draft -/
def CQ (I : zI) (d : Nat) (Q : aQ) : Prop := CT I d Q.1 ∧ (∀ h, h < Q.1.1 0 → ∀ i, i < 128 → I 15 (6 * d + h) i = gapv Q.1 h i) ∧ I 9 d 9 = bI Q.2.1 ∧ I 9 d 10 = bI Q.2.2 ∧ I 9 d 13 = -1 ∧ I 9 d 14 = -1
theorem CQ.r {I I' : zI} {d : Nat} {Q : aQ} (h : CQ I d Q) (e : ∀ a b c, a = 9 ∨ a = 1 ∨ a = 14 ∨ a = 10 ∨ a = 4 ∨ a = 2 ∨ a = 16 ∨ a = 15 → I' a b c = I a b c) : CQ I' d Q := by
  obtain ⟨h1, h2, h3, h4, h5, h6⟩ := h
  exact ⟨h1.fr (fun a b c q => e a b c (ctK8 (Or.inl q))), fun x hx i hi => by rw [e 15 _ i (by omega)]; exact h2 x hx i hi, (e _ _ _ (by omega)).trans h3, (e _ _ _ (by omega)).trans h4, (e _ _ _ (by omega)).trans h5, (e _ _ _ (by omega)).trans h6⟩
theorem CQ.rd {I I' : zI} {d : Nat} {Q : aQ} (h : CQ I d Q) (e : frRd I I') : CQ I' d Q := h.r (fun a b c q => e a b c (by omega))
/-- the text's counts and names: what is looked up while one reads -/
theorem CT.w {I I' : zI} {d : Nat} {T : aT} (h : CT I d T) (e9 : ∀ c, I' 9 d c = I 9 d c) (e1 : ∀ x, x < T.1 0 → (∀ c, I' 1 (6 * d + x) c = I 1 (6 * d + x) c) ∧ ∀ c, I' 14 (6 * d + x) c = I 14 (6 * d + x) c) (e10 : ∀ x, x < T.1 1 → ∀ c, I' 10 (4 * d + x) c = I 10 (4 * d + x) c) (e4 : ∀ x, x < T.1 2 → ∀ c, I' 4 (10 * d + x) c = I 4 (10 * d + x) c) (e2 : ∀ w, w < 3 → ∀ c, I' 2 (3 * d + w) c = I 2 (3 * d + w) c ∧ I' 16 (3 * d + w) c = I 16 (3 * d + w) c) : CT I' d T := by
  obtain ⟨h1, h2, h3, h4, h5, h6, h7, h8⟩ := h
  refine ⟨h1, ?_, h3, fun x hx => ?_, fun x hx => ?_, fun x hx => ?_, ?_, fun x hx => ?_⟩
  · rw [e9, e9, e9]; exact h2
  · obtain ⟨q1, q2⟩ := e1 x hx
    rw [q1, q1, q1]
    simp only [q2]
    exact h4 x hx
  · have q := e10 x hx
    rw [q, q, q, q]; exact h5 x hx
  · have q := e4 x hx
    rw [q, q, q]; exact h6 x hx
  · rw [e9, e9, e9]; exact h7
  · rw [(e2 x hx _).1]
    refine ⟨(h8 x hx).1, (h8 x hx).2.1, fun i hi => ?_⟩
    rw [(e2 x hx _).2]; exact (h8 x hx).2.2 i hi
-- outcomes
theorem nuA_inl {B : Nat → Nat} {n lo hi j : Nat} {st : aR} (h : nuA B n lo hi st = .inl j) : ∃ i, st = .inl i ∧ j = i + 1 ∧ kd B n i = 20 ∧ nI lo ≤ vl B n i ∧ vl B n i ≤ nI hi := by
  cases st with
  | inr x => cases h
  | inl i =>
    refine ⟨i, rfl, ?_⟩
    unfold nuA at h
    dsimp only at h
    by_cases c : kd B n i = 20
    · rw [if_pos c] at h
      by_cases d : nI lo ≤ vl B n i ∧ vl B n i ≤ nI hi
      · rw [if_pos d] at h; cases h; exact ⟨rfl, c, d.1, d.2⟩
      · rw [if_neg d] at h; cases h
    · rw [if_neg c] at h; cases h
theorem nnA_inl {B : Nat → Nat} {n c j : Nat} {f : Nat → Int32} {st : aR} (h : nnA B n f c st = .inl j) : ∃ i, st = .inl i ∧ j = i + 1 := by
  cases st with
  | inr x => cases h
  | inl i =>
    refine ⟨i, rfl, ?_⟩
    unfold nnA at h
    dsimp only at h
    by_cases d : kd B n i = 19
    · rw [if_pos d] at h
      cases e : fnd f (vl B n i) c with
      | none => rw [e] at h; cases h; rfl
      | some b => rw [e] at h; cases h
    · rw [if_neg d] at h; cases h
theorem tnA_inl {B : Nat → Nat} {n c j : Nat} {f : Nat → Int32} {st : aR} (h : tnA B n f c st = .inl j) : ∃ i b, st = .inl i ∧ j = i + 1 ∧ fnd f (vl B n i) c = some b := by
  cases st with
  | inr x => cases h
  | inl i =>
    unfold tnA at h
    dsimp only at h
    by_cases d : kd B n i = 19
    · rw [if_pos d] at h
      cases e : fnd f (vl B n i) c with
      | none => rw [e] at h; cases h
      | some b => rw [e] at h; cases h; exact ⟨i, b, rfl, rfl, e⟩
    · rw [if_neg d] at h; cases h
theorem btA_inl {B : Nat → Nat} {n : Nat} {st : aR} : ∀ {k j : Nat}, btA B n k st = .inl j → ∃ i, st = .inl i ∧ j = i + k ∧ ∀ q, q < k → kd B n (i + q) = 20 ∧ nI 1 ≤ vl B n (i + q) ∧ vl B n (i + q) ≤ nI 4 := by
  intro k
  induction k with
  | zero => intro j h; exact ⟨j, h, rfl, fun q hq => by omega⟩
  | succ k ih =>
    intro j h
    obtain ⟨a, h1, h2, h3, h4, h5⟩ := nuA_inl h
    obtain ⟨i, g1, g2, g3⟩ := ih h1
    refine ⟨i, g1, by omega, fun q hq => ?_⟩
    by_cases e : q = k
    · subst e; rw [← g2]; exact ⟨h3, h4, h5⟩
    · exact g3 q (by omega)
theorem btA_s (B : Nat → Nat) (n k : Nat) (st : aR) : btA B n (k + 1) st = nuA B n 1 4 (btA B n k st) := rfl
/-- is there a fault? -/
theorem stC.ft {B : Nat → Nat} {n m : Nat} {st : aR} {I : zI} (h : stC B n m st I) : (I 5 0 8 = 0 ∧ ∃ j, st = .inl j) ∨ (¬ I 5 0 8 = 0 ∧ ∃ x, st = .inr x) := by
  cases st with
  | inl i => exact Or.inl ⟨h.1, i, rfl⟩
  | inr x =>
    refine Or.inr ⟨fun z => ?_, x, rfl⟩
    rw [h.1] at z
    have := h.2.1
    have z : nI x.1 = nI 0 := z
    rw [n_eq (by omega) (by omega)] at z
    omega
