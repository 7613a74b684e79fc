-- THE TEXT AND THE SCENE, in numbers of their own. A text: how many hands, woods, raps; their fields; the laws' codes.
-- fields: 0 name, 1 cold, 2 aged of a hand, 3 beats (6 h + k), 4 name, 5 keeps, 6 hard, 7 owner of a wood, 8 hand, 9 wood, 10 day of a rap, 11 like, 12 seed, 13 knots
abbrev aT : Type := (Nat → Nat) × (Nat → Nat → Int32) × (Nat → List Int32)
-- a scene: 0 cold, 1 rapped, 2 owner, 3 wood, 4 when, 5 status, 6 bound, 7 faded, 8 beats heard (6 r + k), 9 day, 10 number, 11 aged, 12 hard, 13 like, 14 silent
abbrev aS : Type := Nat → Nat → Int32
abbrev zI : Type := Nat → Nat → Nat → Int32
abbrev zJ : Type := Nat → Nat → Nat → Int64
abbrev zP : Type := Nat → Nat → Nat → Nat
def nmv (a0 a1 a2 a3 a4 a5 a6 : Int32) : Nat → Int64 := fun q => match q with
  | 0 => a0.toInt64
  | 1 => a1.toInt64
  | 2 => a2.toInt64
  | 3 => a3.toInt64
  | 4 => a4.toInt64
  | 5 => a5.toInt64
  | _ => a6.toInt64
def wi (v : Int64) (o m : Int32) : Int32 :=
  let x := if v = zER then o.toInt64 else v
  let y := if x < m.toInt64 then x else m.toInt64
  (if y < 0 then 0 else y).toInt32
def anm (S : aS) (h w : Nat) (b p : Int32) : Nat → Int64 := nmv (S 0 h) (S 11 h) (S 12 w) b p (S 1 h) (S 9 0)
def shk (T : aT) (S : aS) (h w k : Nat) : Int32 := wi (lev (anm S h w (T.2.1 3 (6 * h + k)) (nI k)) (T.2.2 0) []) (8 * S 0 h + S 11 h / 5 - 5 * S 12 w) 100
def rch (T : aT) (S : aS) (h w : Nat) (far : Int32) : Int32 := wi (lev (anm S h w far 0) (T.2.2 1) []) (S 13 0) 30
def fad (T : aT) (S : aS) (h w : Nat) : Int32 := wi (lev (anm S h w 0 0) (T.2.2 2) []) (T.2.1 5 w) 99
def CT (M : zI) (t : Nat) (T : aT) : Prop :=
  t < 2 ∧ (M 9 t 4 = nI (T.1 0) ∧ M 9 t 5 = nI (T.1 1) ∧ M 9 t 6 = nI (T.1 2)) ∧ (T.1 0 ≤ 6 ∧ T.1 1 ≤ 4 ∧ T.1 2 ≤ 10) ∧
  (∀ h, h < T.1 0 → M 1 (6 * t + h) 2 = T.2.1 0 h ∧ M 1 (6 * t + h) 3 = T.2.1 1 h ∧ M 1 (6 * t + h) 4 = T.2.1 2 h ∧ ∀ k, k < 6 → M 14 (6 * t + h) k = T.2.1 3 (6 * h + k)) ∧
  (∀ w, w < T.1 1 → M 10 (4 * t + w) 0 = T.2.1 4 w ∧ M 10 (4 * t + w) 1 = T.2.1 5 w ∧ M 10 (4 * t + w) 2 = T.2.1 6 w ∧ M 10 (4 * t + w) 3 = T.2.1 7 w) ∧
  (∀ r, r < T.1 2 → M 4 (10 * t + r) 0 = T.2.1 8 r ∧ M 4 (10 * t + r) 1 = T.2.1 9 r ∧ M 4 (10 * t + r) 2 = T.2.1 10 r) ∧
  (M 9 t 7 = T.2.1 11 0 ∧ M 9 t 8 = T.2.1 12 0 ∧ M 9 t 11 = T.2.1 13 0) ∧
  (∀ w, w < 3 → (T.2.2 w).length ≤ 64 ∧ M 2 (3 * t + w) 2 = nI (T.2.2 w).length ∧ ∀ i, i < (T.2.2 w).length → M 16 (3 * t + w) i = (T.2.2 w).getD i 0)
def bsum (f : Nat → Int32) : Nat → Nat
  | 0 => 0
  | n + 1 => bsum f n + (if f n = 1 then 2 ^ n else 0)
def dgn (f : Nat → Int32) : Nat → Int32
  | 0 => 0
  | n + 1 => dgn f n * 10 + f n
def dgt (f : Nat → Int32) (r : Nat) : Int32 := dgn (fun k => f (6 * r + k)) 6
def CS (M : zI) (j : Nat) (T : aT) (S : aS) : Prop :=
  (∀ h, h < T.1 0 → M 31 j h = S 0 h ∧ M 33 j h = S 1 h ∧ M 32 j h = S 11 h) ∧
  (∀ w, w < T.1 1 → M 34 j w = S 12 w ∧ M 35 j w = S 2 w) ∧
  (∀ r, r < T.1 2 → M 36 j r = S 3 r ∧ M 37 j r = S 4 r ∧ M 38 j r = S 5 r ∧ M 39 j r = S 6 r ∧ M 40 j r = dgt (S 8) r) ∧
  M 8 j 13 = S 9 0 ∧ M 8 j 14 = S 10 0 ∧ M 8 j 15 = S 13 0 ∧ M 8 j 16 = S 14 0 ∧ M 8 j 17 = nI (bsum (S 7) (T.1 2))
theorem p_within {K : zQ} {M : zM} {v : Int64} {o m : Int32} (hK : K [.inl (wi v o m)] M) : mX8_within K [.inr (.inl v), .inl o, .inl m] M := by
  unfold wi at hK
  refine And.intro (fun c => ?_) (fun c => ?_)
  · rw [if_pos ((lc_eq _ _).mp c)] at hK
    exact hK
  · rw [if_neg (fun q => c ((lc_eq _ _).mpr q))] at hK
    exact hK
theorem p_setNames {K : zQ} {I : zI} {L : zJ} {P : zP} {j h w : Nat} {b p : Int32} (hh : h < 6) (hw : w < 4)
    (hK : ∀ L' : zJ, zeL L L' 42 → (∀ q, q < 7 → L' 42 j q = nmv (I 31 j h) (I 32 j h) (I 34 j w) b p (I 33 j h) (I 8 j 13) q) → K [] (I, L', P)) : mX8_setNames K [.inr (.inr (8, j)), .inl (nI h), .inl (nI w), .inl b, .inl p] (I, L, P) := by
  have zh : zin (nI h) 6 := n_zin hh (by decide)
  have zw : zin (nI w) 4 := n_zin hw (by decide)
  have z0 : zin 0 7 := by unfold zin; decide
  have z1 : zin 1 7 := by unfold zin; decide
  have z2 : zin 2 7 := by unfold zin; decide
  have z3 : zin 3 7 := by unfold zin; decide
  have z4 : zin 4 7 := by unfold zin; decide
  have z5 : zin 5 7 := by unfold zin; decide
  have z6 : zin 6 7 := by unfold zin; decide
  refine And.intro zh (And.intro z0 (And.intro zh (And.intro z1 (And.intro zw (And.intro z2 (And.intro z3 (And.intro z4 (And.intro zh (And.intro z5 (And.intro z6 ?_))))))))))
  have e1 := n_cl (n := h) (by omega)
  have e2 := n_cl (n := w) (by omega)
  refine hK (fun a b9 c => _) ?_ ?_
  · intro a b9 c ha
    simp only [zsL, ha, false_and, if_false]
  · intro q hq
    have : q = 0 ∨ q = 1 ∨ q = 2 ∨ q = 3 ∨ q = 4 ∨ q = 5 ∨ q = 6 := by omega
    rcases this with rfl | rfl | rfl | rfl | rfl | rfl | rfl <;> simp [zsL, nmv, e1, e2] <;> rfl
abbrev zeL2 (L L' : zJ) : Prop := ∀ a b c, a ≠ 17 → a ≠ 42 → L' a b c = L a b c
theorem CT.h6 {M : zI} {t : Nat} {T : aT} (h : CT M t T) : T.1 0 ≤ 6 := h.2.2.1.1
theorem CT.w4 {M : zI} {t : Nat} {T : aT} (h : CT M t T) : T.1 1 ≤ 4 := h.2.2.1.2.1
theorem CT.r10 {M : zI} {t : Nat} {T : aT} (h : CT M t T) : T.1 2 ≤ 10 := h.2.2.1.2.2
theorem CT.hand {M : zI} {t : Nat} {T : aT} (h : CT M t T) {i : Nat} (hi : i < T.1 0) : M 1 (6 * t + i) 2 = T.2.1 0 i ∧ M 1 (6 * t + i) 3 = T.2.1 1 i ∧ M 1 (6 * t + i) 4 = T.2.1 2 i ∧ ∀ k, k < 6 → M 14 (6 * t + i) k = T.2.1 3 (6 * i + k) := h.2.2.2.1 i hi
theorem CT.wood {M : zI} {t : Nat} {T : aT} (h : CT M t T) {i : Nat} (hi : i < T.1 1) : M 10 (4 * t + i) 0 = T.2.1 4 i ∧ M 10 (4 * t + i) 1 = T.2.1 5 i ∧ M 10 (4 * t + i) 2 = T.2.1 6 i ∧ M 10 (4 * t + i) 3 = T.2.1 7 i := h.2.2.2.2.1 i hi
theorem CT.rap {M : zI} {t : Nat} {T : aT} (h : CT M t T) {i : Nat} (hi : i < T.1 2) : M 4 (10 * t + i) 0 = T.2.1 8 i ∧ M 4 (10 * t + i) 1 = T.2.1 9 i ∧ M 4 (10 * t + i) 2 = T.2.1 10 i := h.2.2.2.2.2.1 i hi
theorem CT.law {M : zI} {t : Nat} {T : aT} (h : CT M t T) {i : Nat} (hi : i < 3) : (T.2.2 i).length ≤ 64 ∧ M 2 (3 * t + i) 2 = nI (T.2.2 i).length ∧ ∀ q, q < (T.2.2 i).length → M 16 (3 * t + i) q = (T.2.2 i).getD q 0 := h.2.2.2.2.2.2.2 i hi
theorem nmv_scene {M : zI} {j : Nat} {T : aT} {S : aS} (hS : CS M j T S) {h w : Nat} (hh : h < T.1 0) (hw : w < T.1 1) (b p : Int32) : nmv (M 31 j h) (M 32 j h) (M 34 j w) b p (M 33 j h) (M 8 j 13) = anm S h w b p := by
  unfold anm
  obtain ⟨a1, a2, a3⟩ := hS.1 h hh
  rw [a1, a2, a3, (hS.2.1 w hw).1, hS.2.2.2.1]
theorem p_reach {K : zQ} {I : zI} {L : zJ} {P : zP} {j t : Nat} {T : aT} {S : aS} {h w : Nat} {far : Int32} (ht : P 8 j 0 = t) (hT : CT I t T) (hS : CS I j T S) (hh : h < T.1 0) (hw : w < T.1 1) (hK : ∀ L' : zJ, zeL2 L L' → K [.inl (rch T S h w far)] (I, L', P)) : mX8_reach K [.inr (.inr (8, j)), .inl (nI h), .inl (nI w), .inl far] (I, L, P) := by
  have h6 := hT.h6
  have w4 := hT.w4
  obtain ⟨g1, g2, g3⟩ := hT.law (i := 1) (by omega)
  show bX8_reach_0 K [some (.inr (.inr (8,j))), some (.inl (nI h)), some (.inl (nI w)), some (.inl far)] [] (I, L, P)
  unfold bX8_reach_0
  dsimp only [x_int, x_lng, x_ild, x_lld, x_ald, x_ist, x_ast, x_lst, x_inc, x_ii, x_id, x_i, x_ll, x_ld, x_l, x_cmp, x_i2l, x_l2i, x_if, x_ic, x_dup, x_pop, x_dup2, x_gI, x_gL, x_gR, x_g1, x_g0, x_gP, x_pI, x_pZ, x_pL, x_pP, x_al, x_as, x_all, x_asl, x_alr, x_len, x_cpy, x_m2, x_m1, x_m2l, x_m1l, x_call, x_cv, x_ri, x_rz, x_rl, x_rv, zg, zset, zbef, zlong, zcat, cond_true, cond_false, List.take, List.drop, rv1, rv2, rv3, rv4, rv5, rv6, rv7, sm0, sm1, bl0, bl1, bl2, bl3, bl4, bl5, bl6, bl7, bl8, List.nil_append, List.cons_append, List.length_cons, List.length_nil, Nat.reduceBEq, Nat.reduceAdd, Nat.reduceSub, ta, tb, tn0, tn1, tn2, tn3, tn4, tn5, tn6, tn7, tn8, tn9, tn10, tn11, tn12]
  refine p_setNames (by omega) (by omega) (fun L1 e1 n1 => ?_)
  rw [nmv_scene hS hh hw] at n1
  dsimp only [x_int, x_lng, x_ild, x_lld, x_ald, x_ist, x_ast, x_lst, x_inc, x_ii, x_id, x_i, x_ll, x_ld, x_l, x_cmp, x_i2l, x_l2i, x_if, x_ic, x_dup, x_pop, x_dup2, x_gI, x_gL, x_gR, x_g1, x_g0, x_gP, x_pI, x_pZ, x_pL, x_pP, x_al, x_as, x_all, x_asl, x_alr, x_len, x_cpy, x_m2, x_m1, x_m2l, x_m1l, x_call, x_cv, x_ri, x_rz, x_rl, x_rv, zg, zset, zbef, zlong, zcat, cond_true, cond_false, List.take, List.drop, rv1, rv2, rv3, rv4, rv5, rv6, rv7, sm0, sm1, bl0, bl1, bl2, bl3, bl4, bl5, bl6, bl7, bl8, List.nil_append, List.cons_append, List.length_cons, List.length_nil, Nat.reduceBEq, Nat.reduceAdd, Nat.reduceSub, ta, tb, tn0, tn1, tn2, tn3, tn4, tn5, tn6, tn7, tn8, tn9, tn10, tn11, tn12]
  rw [ht]
  refine ⟨hT.1, n_zin (i := 1) (by decide) (by decide), p_value g1 g2 g3 n1 (fun L2 e2 => ?_)⟩
  dsimp only [x_int, x_lng, x_ild, x_lld, x_ald, x_ist, x_ast, x_lst, x_inc, x_ii, x_id, x_i, x_ll, x_ld, x_l, x_cmp, x_i2l, x_l2i, x_if, x_ic, x_dup, x_pop, x_dup2, x_gI, x_gL, x_gR, x_g1, x_g0, x_gP, x_pI, x_pZ, x_pL, x_pP, x_al, x_as, x_all, x_asl, x_alr, x_len, x_cpy, x_m2, x_m1, x_m2l, x_m1l, x_call, x_cv, x_ri, x_rz, x_rl, x_rv, zg, zset, zbef, zlong, zcat, cond_true, cond_false, List.take, List.drop, rv1, rv2, rv3, rv4, rv5, rv6, rv7, sm0, sm1, bl0, bl1, bl2, bl3, bl4, bl5, bl6, bl7, bl8, List.nil_append, List.cons_append, List.length_cons, List.length_nil, Nat.reduceBEq, Nat.reduceAdd, Nat.reduceSub, ta, tb, tn0, tn1, tn2, tn3, tn4, tn5, tn6, tn7, tn8, tn9, tn10, tn11, tn12]
  refine p_within ?_
  rw [hS.2.2.2.2.2.1]
  exact hK L2 (fun a b c q1 q2 => (e2 a b c q1).trans (e1 a b c q2))
theorem p_shake {K : zQ} {I : zI} {L : zJ} {P : zP} {j t : Nat} {T : aT} {S : aS} {h w k : Nat} (ht : P 8 j 0 = t) (hT : CT I t T) (hS : CS I j T S) (hh : h < T.1 0) (hw : w < T.1 1) (hk : k < 6) (hK : ∀ L' : zJ, zeL2 L L' → K [.inl (shk T S h w k)] (I, L', P)) : mX8_shake K [.inr (.inr (8, j)), .inl (nI h), .inl (nI w), .inl (nI k)] (I, L, P) := by
  have h6 := hT.h6
  have w4 := hT.w4
  obtain ⟨g1, g2, g3⟩ := hT.law (i := 0) (by omega)
  show bX8_shake_0 K [some (.inr (.inr (8,j))), some (.inl (nI h)), some (.inl (nI w)), some (.inl (nI k)), none] [] (I, L, P)
  unfold bX8_shake_0
  dsimp only [x_int, x_lng, x_ild, x_lld, x_ald, x_ist, x_ast, x_lst, x_inc, x_ii, x_id, x_i, x_ll, x_ld, x_l, x_cmp, x_i2l, x_l2i, x_if, x_ic, x_dup, x_pop, x_dup2, x_gI, x_gL, x_gR, x_g1, x_g0, x_gP, x_pI, x_pZ, x_pL, x_pP, x_al, x_as, x_all, x_asl, x_alr, x_len, x_cpy, x_m2, x_m1, x_m2l, x_m1l, x_call, x_cv, x_ri, x_rz, x_rl, x_rv, zg, zset, zbef, zlong, zcat, cond_true, cond_false, List.take, List.drop, rv1, rv2, rv3, rv4, rv5, rv6, rv7, sm0, sm1, bl0, bl1, bl2, bl3, bl4, bl5, bl6, bl7, bl8, List.nil_append, List.cons_append, List.length_cons, List.length_nil, Nat.reduceBEq, Nat.reduceAdd, Nat.reduceSub, ta, tb, tn0, tn1, tn2, tn3, tn4, tn5, tn6, tn7, tn8, tn9, tn10, tn11, tn12, zk_14, zl_14, zk_31, zl_31, zk_32, zl_32, zk_34, zl_34]
  have zh : zin (nI h) 6 := n_zin (by omega) (by decide)
  have zw : zin (nI w) 4 := n_zin (by omega) (by decide)
  rw [ht]
  refine ⟨hT.1, zh, n_zin hk (by decide), ?_⟩
  rw [n_cl (n := h) (by omega), n_cl (n := k) (by omega), (hT.hand hh).2.2.2 k hk]
  refine p_setNames (by omega) (by omega) (fun L1 e1 n1 => ?_)
  rw [nmv_scene hS hh hw] at n1
  dsimp only [x_int, x_lng, x_ild, x_lld, x_ald, x_ist, x_ast, x_lst, x_inc, x_ii, x_id, x_i, x_ll, x_ld, x_l, x_cmp, x_i2l, x_l2i, x_if, x_ic, x_dup, x_pop, x_dup2, x_gI, x_gL, x_gR, x_g1, x_g0, x_gP, x_pI, x_pZ, x_pL, x_pP, x_al, x_as, x_all, x_asl, x_alr, x_len, x_cpy, x_m2, x_m1, x_m2l, x_m1l, x_call, x_cv, x_ri, x_rz, x_rl, x_rv, zg, zset, zbef, zlong, zcat, cond_true, cond_false, List.take, List.drop, rv1, rv2, rv3, rv4, rv5, rv6, rv7, sm0, sm1, bl0, bl1, bl2, bl3, bl4, bl5, bl6, bl7, bl8, List.nil_append, List.cons_append, List.length_cons, List.length_nil, Nat.reduceBEq, Nat.reduceAdd, Nat.reduceSub, ta, tb, tn0, tn1, tn2, tn3, tn4, tn5, tn6, tn7, tn8, tn9, tn10, tn11, tn12, zk_14, zl_14, zk_31, zl_31, zk_32, zl_32, zk_34, zl_34]
  rw [ht, n_cl (n := w) (by omega)]
  refine ⟨zh, zh, by decide, zw, hT.1, n_zin (i := 0) (by decide) (by decide), p_value g1 g2 g3 n1 (fun L2 e2 => ?_)⟩
  dsimp only [x_int, x_lng, x_ild, x_lld, x_ald, x_ist, x_ast, x_lst, x_inc, x_ii, x_id, x_i, x_ll, x_ld, x_l, x_cmp, x_i2l, x_l2i, x_if, x_ic, x_dup, x_pop, x_dup2, x_gI, x_gL, x_gR, x_g1, x_g0, x_gP, x_pI, x_pZ, x_pL, x_pP, x_al, x_as, x_all, x_asl, x_alr, x_len, x_cpy, x_m2, x_m1, x_m2l, x_m1l, x_call, x_cv, x_ri, x_rz, x_rl, x_rv, zg, zset, zbef, zlong, zcat, cond_true, cond_false, List.take, List.drop, rv1, rv2, rv3, rv4, rv5, rv6, rv7, sm0, sm1, bl0, bl1, bl2, bl3, bl4, bl5, bl6, bl7, bl8, List.nil_append, List.cons_append, List.length_cons, List.length_nil, Nat.reduceBEq, Nat.reduceAdd, Nat.reduceSub, ta, tb, tn0, tn1, tn2, tn3, tn4, tn5, tn6, tn7, tn8, tn9, tn10, tn11, tn12]
  refine p_within ?_
  obtain ⟨a1, a2, a3⟩ := hS.1 h hh
  rw [a1, a3, (hS.2.1 w hw).1]
  exact hK L2 (fun a b c q1 q2 => (e2 a b c q1).trans (e1 a b c q2))
