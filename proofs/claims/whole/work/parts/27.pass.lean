-- bits
theorem bits1 : ∀ m, m < 1024 → ∀ r, r < 10 → (nI m >>> (nI r &&& 31)) &&& 1 = if m.testBit r then 1 else 0 := by decide +kernel
theorem bits2 : ∀ m, m < 1024 → ∀ r, r < 10 → m.testBit r = false → nI m ||| (1 <<< (nI r &&& 31)) = nI (m + 2 ^ r) := by decide +kernel
theorem bsum_lt (f : Nat → Int32) (n : Nat) : bsum f n < 2 ^ n := by
  induction n with
  | zero => exact Nat.one_pos
  | succ n ih =>
    show bsum f n + _ < _
    rw [Nat.pow_succ]
    split <;> omega
theorem bsum_bit (f : Nat → Int32) (n r : Nat) : (bsum f n).testBit r = decide (r < n ∧ f r = 1) := by
  induction n with
  | zero => simp [bsum]
  | succ n ih =>
    have hl := bsum_lt f n
    show (bsum f n + (if f n = 1 then 2 ^ n else 0)).testBit r = _
    by_cases e : f n = 1
    · rw [if_pos e, Nat.add_comm]
      rcases Nat.lt_trichotomy r n with q | q | q
      · rw [Nat.testBit_two_pow_add_gt q, ih]
        simp [q, Nat.lt_succ_of_lt q]
      · subst q
        rw [Nat.testBit_two_pow_add_eq, Nat.testBit_lt_two_pow hl]
        simp [e]
      · rw [Nat.testBit_lt_two_pow]
        · simp; omega
        · have : 2 ^ (n + 1) ≤ 2 ^ r := Nat.pow_le_pow_right (by decide) q
          rw [Nat.pow_succ] at this
          omega
    · rw [if_neg e, Nat.add_zero, ih]
      by_cases q : r = n
      · subst q; simp [e]
      · congr 1
        simp only [eq_iff_iff]
        constructor
        · rintro ⟨a, b⟩; exact ⟨by omega, b⟩
        · rintro ⟨a, b⟩; exact ⟨by omega, b⟩
theorem bsum_set {f g : Nat → Int32} {r : Nat} (h0 : ¬ f r = 1) (h1 : g r = 1) (hg : ∀ i, i ≠ r → g i = f i) (n : Nat) : bsum g n = bsum f n + (if r < n then 2 ^ r else 0) := by
  induction n with
  | zero => simp [bsum]
  | succ n ih =>
    show bsum g n + _ = bsum f n + _ + _
    rw [ih]
    by_cases e : n = r
    · subst e
      rw [if_pos h1, if_neg h0]
      simp
    · rw [hg n e]
      by_cases q : r < n
      · rw [if_pos q, if_pos (show r < n + 1 by omega)]; omega
      · rw [if_neg q, if_neg (show ¬ r < n + 1 by omega), Nat.add_zero, Nat.add_zero]
theorem bsum_congr {f g : Nat → Int32} {n : Nat} (h : ∀ i, i < n → f i = g i) : bsum f n = bsum g n := by
  induction n with
  | zero => rfl
  | succ n ih =>
    show bsum f n + _ = bsum g n + _
    rw [ih (fun i hi => h i (by omega)), h n (by omega)]
theorem p_isFaded {K : zQ} {I : zI} {L : zJ} {P : zP} {j : Nat} {T : aT} {S : aS} {r : Nat} (r10 : T.1 2 ≤ 10) (hS : CS I j T S) (hr : r < T.1 2) (hK : K [.inl (if S 7 r = 1 then 1 else 0)] (I, L, P)) : mX8_isFaded K [.inr (.inr (8, j)), .inl (nI r)] (I, L, P) := by
  have hb := bsum_bit (S 7) (T.1 2) r
  have hl : bsum (S 7) (T.1 2) < 1024 := Nat.lt_of_lt_of_le (bsum_lt _ _) (Nat.pow_le_pow_right (by decide) r10)
  have e := bits1 _ hl r (by omega)
  show bX8_isFaded_0 K [some (.inr (.inr (8,j))), some (.inl (nI r))] [] (I, L, P)
  unfold bX8_isFaded_0
  dsimp only [bX8_isFaded_16, x_int, x_lng, x_ild, x_lld, x_ald, x_ist, x_ast, x_lst, x_inc, x_ii, x_id, x_i, x_ll, x_ld, x_l, x_cmp, x_i2l, x_l2i, x_if, x_ic, x_dup, x_pop, x_dup2, x_gI, x_gL, x_gR, x_g1, x_g0, x_gP, x_pI, x_pZ, x_pL, x_pP, x_al, x_as, x_all, x_asl, x_alr, x_len, x_cpy, x_m2, x_m1, x_m2l, x_m1l, x_call, x_cv, x_ri, x_rz, x_rl, x_rv, zg, zset, zbef, zlong, zcat, cond_true, cond_false, List.take, List.drop, rv1, rv2, rv3, rv4, rv5, rv6, rv7, sm0, sm1, bl0, bl1, bl2, bl3, bl4, bl5, bl6, bl7, bl8, List.nil_append, List.cons_append, List.length_cons, List.length_nil, Nat.reduceBEq, Nat.reduceAdd, Nat.reduceSub, ta, tb, tn0, tn1, tn2, tn3, tn4, tn5, tn6, tn7, tn8, tn9, tn10, tn11, tn12]
  rw [hS.2.2.2.2.2.2.2, e, hb]
  by_cases q : S 7 r = 1
  · rw [if_pos q] at hK
    refine ⟨fun c => absurd c (by simp [hr, q]), fun _ => ⟨Or.inr rfl, hK⟩⟩
  · rw [if_neg q] at hK
    refine ⟨fun _ => ⟨Or.inl rfl, hK⟩, fun c => absurd (by simp [q]) c⟩
/-- the hand of a rap, the wood of a rap, as numbers -/
def hnd (T : aT) (r : Nat) : Nat := (T.2.1 8 r).toNatClampNeg
def wod (S : aS) (r : Nat) : Nat := (S 3 r).toNatClampNeg
def WT (T : aT) : Prop := (∀ r, r < T.1 2 → ∃ h, h < T.1 0 ∧ T.2.1 8 r = nI h) ∧ (∀ h, h < T.1 0 → ∀ k, k < 6 → ∃ x, 1 ≤ x ∧ x ≤ 4 ∧ T.2.1 3 (6 * h + k) = nI x) ∧ ∀ w, w < T.1 1 → ∃ x, x ≤ 99 ∧ T.2.1 5 w = nI x
def WS (T : aT) (S : aS) : Prop := (∀ r, r < T.1 2 → ∃ w, w < T.1 1 ∧ S 3 r = nI w)
theorem WT.h {T : aT} (h : WT T) (h6 : T.1 0 ≤ 6) {r : Nat} (hr : r < T.1 2) : hnd T r < T.1 0 ∧ T.2.1 8 r = nI (hnd T r) := by
  obtain ⟨x, h1, h2⟩ := h.1 r hr
  unfold hnd
  rw [h2, n_cl (by omega)]
  exact ⟨h1, rfl⟩
theorem WS.w {T : aT} {S : aS} (h : WS T S) (w4 : T.1 1 ≤ 4) {r : Nat} (hr : r < T.1 2) : wod S r < T.1 1 ∧ S 3 r = nI (wod S r) := by
  obtain ⟨x, h1, h2⟩ := h r hr
  unfold wod
  rw [h2, n_cl (by omega)]
  exact ⟨h1, rfl⟩
theorem p_fade {K : zQ} {I : zI} {L : zJ} {P : zP} {j t : Nat} {T : aT} {S : aS} {r h w : Nat} (ht : P 8 j 0 = t) (hT : CT I t T) (hS : CS I j T S) (hr : r < T.1 2) (hh : h < T.1 0) (hw : w < T.1 1) (eh : T.2.1 8 r = nI h) (ew : S 3 r = nI w) (hK : ∀ L' : zJ, zeL2 L L' → K [.inl (fad T S h w)] (I, L', P)) : mX8_fade K [.inr (.inr (8, j)), .inl (nI r)] (I, L, P) := by
  have h6 := hT.h6
  have w4 := hT.w4
  have r10 := hT.r10
  obtain ⟨g1, g2, g3⟩ := hT.law (i := 2) (by omega)
  have zr : zin (nI r) 10 := n_zin (by omega) (by decide)
  have zw : zin (nI w) 4 := n_zin (by omega) (by decide)
  show bX8_fade_0 K [some (.inr (.inr (8,j))), some (.inl (nI r))] [] (I, L, P)
  unfold bX8_fade_0
  dsimp only [x_int, x_lng, x_ild, x_lld, x_ald, x_ist, x_ast, x_lst, x_inc, x_ii, x_id, x_i, x_ll, x_ld, x_l, x_cmp, x_i2l, x_l2i, x_if, x_ic, x_dup, x_pop, x_dup2, x_gI, x_gL, x_gR, x_g1, x_g0, x_gP, x_pI, x_pZ, x_pL, x_pP, x_al, x_as, x_all, x_asl, x_alr, x_len, x_cpy, x_m2, x_m1, x_m2l, x_m1l, x_call, x_cv, x_ri, x_rz, x_rl, x_rv, zg, zset, zbef, zlong, zcat, cond_true, cond_false, List.take, List.drop, rv1, rv2, rv3, rv4, rv5, rv6, rv7, sm0, sm1, bl0, bl1, bl2, bl3, bl4, bl5, bl6, bl7, bl8, List.nil_append, List.cons_append, List.length_cons, List.length_nil, Nat.reduceBEq, Nat.reduceAdd, Nat.reduceSub, ta, tb, tn0, tn1, tn2, tn3, tn4, tn5, tn6, tn7, tn8, tn9, tn10, tn11, tn12, zk_36, zl_36]
  rw [ht, n_cl (n := r) (by omega), (hT.rap hr).1, (hS.2.2.1 r hr).1, eh, ew]
  refine ⟨hT.1, zr, zr, p_setNames (by omega) (by omega) (fun L1 e1 n1 => ?_)⟩
  rw [nmv_scene hS hh hw] at n1
  dsimp only [x_int, x_lng, x_ild, x_lld, x_ald, x_ist, x_ast, x_lst, x_inc, x_ii, x_id, x_i, x_ll, x_ld, x_l, x_cmp, x_i2l, x_l2i, x_if, x_ic, x_dup, x_pop, x_dup2, x_gI, x_gL, x_gR, x_g1, x_g0, x_gP, x_pI, x_pZ, x_pL, x_pP, x_al, x_as, x_all, x_asl, x_alr, x_len, x_cpy, x_m2, x_m1, x_m2l, x_m1l, x_call, x_cv, x_ri, x_rz, x_rl, x_rv, zg, zset, zbef, zlong, zcat, cond_true, cond_false, List.take, List.drop, rv1, rv2, rv3, rv4, rv5, rv6, rv7, sm0, sm1, bl0, bl1, bl2, bl3, bl4, bl5, bl6, bl7, bl8, List.nil_append, List.cons_append, List.length_cons, List.length_nil, Nat.reduceBEq, Nat.reduceAdd, Nat.reduceSub, ta, tb, tn0, tn1, tn2, tn3, tn4, tn5, tn6, tn7, tn8, tn9, tn10, tn11, tn12, zk_36, zl_36]
  rw [ht]
  refine ⟨hT.1, n_zin (i := 2) (by decide) (by decide), p_value g1 g2 g3 n1 (fun L2 e2 => ?_)⟩
  dsimp only [x_int, x_lng, x_ild, x_lld, x_ald, x_ist, x_ast, x_lst, x_inc, x_ii, x_id, x_i, x_ll, x_ld, x_l, x_cmp, x_i2l, x_l2i, x_if, x_ic, x_dup, x_pop, x_dup2, x_gI, x_gL, x_gR, x_g1, x_g0, x_gP, x_pI, x_pZ, x_pL, x_pP, x_al, x_as, x_all, x_asl, x_alr, x_len, x_cpy, x_m2, x_m1, x_m2l, x_m1l, x_call, x_cv, x_ri, x_rz, x_rl, x_rv, zg, zset, zbef, zlong, zcat, cond_true, cond_false, List.take, List.drop, rv1, rv2, rv3, rv4, rv5, rv6, rv7, sm0, sm1, bl0, bl1, bl2, bl3, bl4, bl5, bl6, bl7, bl8, List.nil_append, List.cons_append, List.length_cons, List.length_nil, Nat.reduceBEq, Nat.reduceAdd, Nat.reduceSub, ta, tb, tn0, tn1, tn2, tn3, tn4, tn5, tn6, tn7, tn8, tn9, tn10, tn11, tn12, zk_36, zl_36]
  try rw [n_cl (n := r) (by omega)]
  rw [(hS.2.2.1 r hr).1, ew, ht, n_cl (n := w) (by omega), (hT.wood hw).2.1]
  refine ⟨hT.1, zr, zw, p_within ?_⟩
  exact hK L2 (fun a b c q1 q2 => (e2 a b c q1).trans (e1 a b c q2))
/-- what is faded on a day, of the first n raps -/
def aFade (T : aT) (S : aS) (n : Nat) : aS := fun f i => if f = 7 ∧ i < n ∧ ¬ S 5 i = 0 ∧ ¬ S 7 i = 1 ∧ ¬ S 9 0 - S 4 i ≤ fad T S (hnd T i) (wod S i) then 1 else S f i
theorem aFade_ne {T : aT} {S : aS} {n f i : Nat} (h : ¬ f = 7) : aFade T S n f i = S f i := by simp [aFade, h]
theorem fad_fade {T : aT} {S : aS} {n h w : Nat} : fad T (aFade T S n) h w = fad T S h w := by
  simp only [fad, anm]
  rw [aFade_ne (by decide), aFade_ne (by decide), aFade_ne (by decide), aFade_ne (by decide), aFade_ne (by decide)]
theorem CS.faded {M M' : zI} {j : Nat} {T : aT} {S S' : aS} (h : CS M j T S) (e : ∀ a c, csK a c = true → ¬ (a = 8 ∧ c = 17) → M' a j c = M a j c) (hs : ∀ f i, ¬ f = 7 → S' f i = S f i) (ev : M' 8 j 17 = nI (bsum (S' 7) (T.1 2))) : CS M' j T S' := by
  have e31 : ∀ c, M' 31 j c = M 31 j c := fun c => e 31 c rfl (by simp)
  have e32 : ∀ c, M' 32 j c = M 32 j c := fun c => e 32 c rfl (by simp)
  have e33 : ∀ c, M' 33 j c = M 33 j c := fun c => e 33 c rfl (by simp)
  have e34 : ∀ c, M' 34 j c = M 34 j c := fun c => e 34 c rfl (by simp)
  have e35 : ∀ c, M' 35 j c = M 35 j c := fun c => e 35 c rfl (by simp)
  have e36 : ∀ c, M' 36 j c = M 36 j c := fun c => e 36 c rfl (by simp)
  have e37 : ∀ c, M' 37 j c = M 37 j c := fun c => e 37 c rfl (by simp)
  have e38 : ∀ c, M' 38 j c = M 38 j c := fun c => e 38 c rfl (by simp)
  have e39 : ∀ c, M' 39 j c = M 39 j c := fun c => e 39 c rfl (by simp)
  have e40 : ∀ c, M' 40 j c = M 40 j c := fun c => e 40 c rfl (by simp)
  have f1 : M' 8 j 13 = M 8 j 13 := e 8 _ rfl (by simp)
  have f2 : M' 8 j 14 = M 8 j 14 := e 8 _ rfl (by simp)
  have f3 : M' 8 j 15 = M 8 j 15 := e 8 _ rfl (by simp)
  have f4 : M' 8 j 16 = M 8 j 16 := e 8 _ rfl (by simp)
  obtain ⟨a1, a2, a3, a4, a5, a6, a7, a8⟩ := h
  have g8 : S' 8 = S 8 := by funext i; exact hs 8 i (by decide)
  refine ⟨fun x hx => ?_, fun x hx => ?_, fun x hx => ?_, ?_, ?_, ?_, ?_, ev⟩
  · rw [e31, e32, e33, hs 0 x (by decide), hs 1 x (by decide), hs 11 x (by decide)]; exact a1 x hx
  · rw [e34, e35, hs 12 x (by decide), hs 2 x (by decide)]; exact a2 x hx
  · rw [e36, e37, e38, e39, e40, hs 3 x (by decide), hs 4 x (by decide), hs 5 x (by decide), hs 6 x (by decide), g8]; exact a3 x hx
  · rw [f1, hs 9 0 (by decide)]; exact a4
  · rw [f2, hs 10 0 (by decide)]; exact a5
  · rw [f3, hs 13 0 (by decide)]; exact a6
  · rw [f4, hs 14 0 (by decide)]; exact a7
