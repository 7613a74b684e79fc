def RT (M : zI) (T : aT) : Prop :=
  (M 12 0 12 = nI (T.1 0) ∧ M 12 0 13 = nI (T.1 1) ∧ M 12 0 14 = nI (T.1 2)) ∧ (T.1 0 ≤ 6 ∧ T.1 1 ≤ 4 ∧ T.1 2 ≤ 10) ∧
  (∀ h, h < T.1 0 → M 55 0 h = T.2.1 0 h ∧ M 56 0 h = T.2.1 1 h ∧ M 57 0 h = T.2.1 2 h ∧ ∀ k, k < 6 → M 58 0 (6 * h + k) = T.2.1 3 (6 * h + k)) ∧
  (∀ w, w < T.1 1 → M 59 0 w = T.2.1 4 w ∧ M 60 0 w = T.2.1 5 w ∧ M 61 0 w = T.2.1 6 w ∧ M 62 0 w = T.2.1 7 w) ∧
  (∀ r, r < T.1 2 → M 63 0 r = T.2.1 8 r ∧ M 64 0 r = T.2.1 9 r ∧ M 65 0 r = T.2.1 10 r) ∧
  (M 54 0 0 = T.2.1 11 0 ∧ M 54 0 1 = T.2.1 12 0 ∧ M 12 0 15 = T.2.1 13 0) ∧
  ∀ w, w < 3 → RLw M T w
def rtK (a c : Nat) : Bool := (Nat.ble 54 a && Nat.ble a 71) || (a == 12 && (Nat.ble 12 c && Nat.ble c 15))
theorem RT.fr {M M' : zI} {T : aT} (h : RT M T) (e : ∀ a c, rtK a c = true → M' a 0 c = M a 0 c) : RT M' T := by
  have e54 : ∀ c, M' 54 0 c = M 54 0 c := fun c => e 54 c rfl
  have e55 : ∀ c, M' 55 0 c = M 55 0 c := fun c => e 55 c rfl
  have e56 : ∀ c, M' 56 0 c = M 56 0 c := fun c => e 56 c rfl
  have e57 : ∀ c, M' 57 0 c = M 57 0 c := fun c => e 57 c rfl
  have e58 : ∀ c, M' 58 0 c = M 58 0 c := fun c => e 58 c rfl
  have e59 : ∀ c, M' 59 0 c = M 59 0 c := fun c => e 59 c rfl
  have e60 : ∀ c, M' 60 0 c = M 60 0 c := fun c => e 60 c rfl
  have e61 : ∀ c, M' 61 0 c = M 61 0 c := fun c => e 61 c rfl
  have e62 : ∀ c, M' 62 0 c = M 62 0 c := fun c => e 62 c rfl
  have e63 : ∀ c, M' 63 0 c = M 63 0 c := fun c => e 63 c rfl
  have e64 : ∀ c, M' 64 0 c = M 64 0 c := fun c => e 64 c rfl
  have e65 : ∀ c, M' 65 0 c = M 65 0 c := fun c => e 65 c rfl
  have e66 : ∀ c, M' 66 0 c = M 66 0 c := fun c => e 66 c rfl
  have e67 : ∀ c, M' 67 0 c = M 67 0 c := fun c => e 67 c rfl
  have e68 : ∀ c, M' 68 0 c = M 68 0 c := fun c => e 68 c rfl
  have e69 : ∀ c, M' 69 0 c = M 69 0 c := fun c => e 69 c rfl
  have e70 : ∀ c, M' 70 0 c = M 70 0 c := fun c => e 70 c rfl
  have e71 : ∀ c, M' 71 0 c = M 71 0 c := fun c => e 71 c rfl
  have f1 : M' 12 0 12 = M 12 0 12 := e 12 _ rfl
  have f2 : M' 12 0 13 = M 12 0 13 := e 12 _ rfl
  have f3 : M' 12 0 14 = M 12 0 14 := e 12 _ rfl
  have f4 : M' 12 0 15 = M 12 0 15 := e 12 _ rfl
  unfold RT at h ⊢
  obtain ⟨h1, h2, h3, h4, h5, h6, h7⟩ := h
  refine ⟨by rw [f1, f2, f3]; exact h1, h2, fun x hx => by rw [e55, e56, e57]; simp only [e58]; exact h3 x hx, fun x hx => by rw [e59, e60, e61, e62]; exact h4 x hx, fun x hx => by rw [e63, e64, e65]; exact h5 x hx, by rw [e54, e54, f4]; exact h6, fun w hw => ?_⟩
  have h8 := h7 w hw
  unfold RLw at h8 ⊢
  rw [e66, e67, e68]
  rcases h8 with h8 | ⟨g1, a, g2, g3, g4, g5⟩
  · exact Or.inl h8
  · exact Or.inr ⟨g1, a, g2, g3, g4, RK.fr (fun a c ha => by rcases ha with rfl | rfl | rfl; exact e69 c; exact e70 c; exact e71 c) _ _ _ g5⟩
theorem RT.h6 {M : zI} {T : aT} (h : RT M T) : T.1 0 ≤ 6 := h.2.1.1
theorem RT.w4 {M : zI} {T : aT} (h : RT M T) : T.1 1 ≤ 4 := h.2.1.2.1
theorem RT.r10 {M : zI} {T : aT} (h : RT M T) : T.1 2 ≤ 10 := h.2.1.2.2
theorem RT.hand {M : zI} {T : aT} (h : RT M T) {x : Nat} (hx : x < T.1 0) : M 55 0 x = T.2.1 0 x ∧ M 56 0 x = T.2.1 1 x ∧ M 57 0 x = T.2.1 2 x ∧ ∀ k, k < 6 → M 58 0 (6 * x + k) = T.2.1 3 (6 * x + k) := h.2.2.1 x hx
theorem RT.wood {M : zI} {T : aT} (h : RT M T) {w : Nat} (hw : w < T.1 1) : M 59 0 w = T.2.1 4 w ∧ M 60 0 w = T.2.1 5 w ∧ M 61 0 w = T.2.1 6 w ∧ M 62 0 w = T.2.1 7 w := h.2.2.2.1 w hw
theorem RT.rap {M : zI} {T : aT} (h : RT M T) {r : Nat} (hr : r < T.1 2) : M 63 0 r = T.2.1 8 r ∧ M 64 0 r = T.2.1 9 r ∧ M 65 0 r = T.2.1 10 r := h.2.2.2.2.1 r hr
theorem RT.law {M : zI} {T : aT} (h : RT M T) {w : Nat} (hw : w < 3) : RLw M T w := h.2.2.2.2.2.2 w hw
def coldR (M : zI) (b h : Nat) : Int32 := if M 12 0 64 = 0 then 0 else if nI h = M 12 0 66 then M 12 0 67 else M 76 0 (6 * b + h)
def agedR (M : zI) (h : Nat) : Int32 := if M 12 0 64 = 1 then 0 else M 57 0 h
def hardR (M : zI) (w : Nat) : Int32 := if M 12 0 64 = 4 then 9 else M 61 0 w
def likeR (M : zI) : Int32 := if M 12 0 64 = 3 then 24 else M 54 0 0
def RS (M : zI) (b : Nat) (T : aT) (S : aS) : Prop :=
  (∀ h, h < T.1 0 → coldR M b h = S 0 h ∧ M 77 0 (6 * b + h) = S 1 h ∧ agedR M h = S 11 h) ∧
  (∀ w, w < T.1 1 → hardR M w = S 12 w ∧ M 78 0 (4 * b + w) = S 2 w) ∧
  (∀ r, r < T.1 2 → M 79 0 (10 * b + r) = S 3 r ∧ M 80 0 (10 * b + r) = S 4 r ∧ M 81 0 (10 * b + r) = S 5 r ∧ M 82 0 (10 * b + r) = S 6 r ∧ M 83 0 (10 * b + r) = S 7 r ∧ (¬ S 5 r = 0 → M 84 0 (10 * b + r) = S 4 r) ∧ ∀ k, k < 6 → M 85 0 (60 * b + 6 * r + k) = S 8 (6 * r + k)) ∧
  M 86 0 b = S 9 0 ∧ likeR M = S 13 0 ∧ S 14 0 = (if M 12 0 64 = 2 then M 12 0 65 else -1)
theorem p_coldIn {K : zQ} {I : zI} {L : zJ} {P : zP} {b h : Nat} (hb : b < 2) (hh : h < 6) (hK : K [.inl (coldR I b h)] (I, L, P)) : mX12_coldIn K [.inr (.inr (12, 0)), .inl (nI b), .inl (nI h)] (I, L, P) := by
  unfold coldR at hK
  show bX12_coldIn_0 K [some (.inr (.inr (12,0))), some (.inl (nI b)), some (.inl (nI h))] [] (I, L, P)
  unfold bX12_coldIn_0
  dsimp only [x_int, x_lng, x_ild, x_lld, x_ald, x_ist, x_ast, x_lst, x_inc, x_ii, x_id, x_i, x_ll, x_ld, x_l, x_cmp, x_i2l, x_l2i, x_if, x_ic, x_dup, x_pop, x_dup2, x_gI, x_gL, x_gR, x_g1, x_g0, x_gP, x_pI, x_pZ, x_pL, x_pP, x_al, x_as, x_all, x_asl, x_alr, x_len, x_cpy, x_m2, x_m1, x_m2l, x_m1l, x_call, x_cv, x_ri, x_rz, x_rl, x_rv, zg, zset, zbef, zlong, zcat, cond_true, cond_false, List.take, List.drop, rv1, rv2, rv3, rv4, rv5, rv6, rv7, sm0, sm1, bl0, bl1, bl2, bl3, bl4, bl5, bl6, bl7, bl8, List.nil_append, List.cons_append, List.length_cons, List.length_nil, Nat.reduceBEq, Nat.reduceAdd, Nat.reduceSub, ta, tb, tn0, tn1, tn2, tn3, tn4, tn5, tn6, tn7, tn8, tn9, tn10, tn11, tn12, zk_76, zl_76, bX12_coldIn_37]
  rw [n6, n_cl (by omega)]
  refine ⟨fun c => ?_, fun c => ⟨fun d => ?_, fun d => ⟨n_zin (by omega) (by decide), ?_⟩⟩⟩
  · rw [if_pos c] at hK; exact hK
  · rw [if_neg c, if_pos d] at hK; exact hK
  · rw [if_neg c, if_neg d] at hK; exact hK
theorem p_agedOf {K : zQ} {I : zI} {L : zJ} {P : zP} {h : Nat} (hh : h < 6) (hK : K [.inl (agedR I h)] (I, L, P)) : mX12_agedOf K [.inr (.inr (12, 0)), .inl (nI h)] (I, L, P) := by
  unfold agedR at hK
  show bX12_agedOf_0 K [some (.inr (.inr (12,0))), some (.inl (nI h))] [] (I, L, P)
  unfold bX12_agedOf_0
  dsimp only [x_int, x_lng, x_ild, x_lld, x_ald, x_ist, x_ast, x_lst, x_inc, x_ii, x_id, x_i, x_ll, x_ld, x_l, x_cmp, x_i2l, x_l2i, x_if, x_ic, x_dup, x_pop, x_dup2, x_gI, x_gL, x_gR, x_g1, x_g0, x_gP, x_pI, x_pZ, x_pL, x_pP, x_al, x_as, x_all, x_asl, x_alr, x_len, x_cpy, x_m2, x_m1, x_m2l, x_m1l, x_call, x_cv, x_ri, x_rz, x_rl, x_rv, zg, zset, zbef, zlong, zcat, cond_true, cond_false, List.take, List.drop, rv1, rv2, rv3, rv4, rv5, rv6, rv7, sm0, sm1, bl0, bl1, bl2, bl3, bl4, bl5, bl6, bl7, bl8, List.nil_append, List.cons_append, List.length_cons, List.length_nil, Nat.reduceBEq, Nat.reduceAdd, Nat.reduceSub, ta, tb, tn0, tn1, tn2, tn3, tn4, tn5, tn6, tn7, tn8, tn9, tn10, tn11, tn12, zk_57, zl_57, bX12_agedOf_18]
  rw [n_cl (by omega)]
  refine ⟨fun c => ?_, fun c => ⟨n_zin (by omega) (by decide), ?_⟩⟩
  · rw [if_pos c] at hK; exact hK
  · rw [if_neg c] at hK; exact hK
theorem p_hardOf {K : zQ} {I : zI} {L : zJ} {P : zP} {w : Nat} (hw : w < 4) (hK : K [.inl (hardR I w)] (I, L, P)) : mX12_hardOf K [.inr (.inr (12, 0)), .inl (nI w)] (I, L, P) := by
  unfold hardR at hK
  show bX12_hardOf_0 K [some (.inr (.inr (12,0))), some (.inl (nI w))] [] (I, L, P)
  unfold bX12_hardOf_0
  dsimp only [x_int, x_lng, x_ild, x_lld, x_ald, x_ist, x_ast, x_lst, x_inc, x_ii, x_id, x_i, x_ll, x_ld, x_l, x_cmp, x_i2l, x_l2i, x_if, x_ic, x_dup, x_pop, x_dup2, x_gI, x_gL, x_gR, x_g1, x_g0, x_gP, x_pI, x_pZ, x_pL, x_pP, x_al, x_as, x_all, x_asl, x_alr, x_len, x_cpy, x_m2, x_m1, x_m2l, x_m1l, x_call, x_cv, x_ri, x_rz, x_rl, x_rv, zg, zset, zbef, zlong, zcat, cond_true, cond_false, List.take, List.drop, rv1, rv2, rv3, rv4, rv5, rv6, rv7, sm0, sm1, bl0, bl1, bl2, bl3, bl4, bl5, bl6, bl7, bl8, List.nil_append, List.cons_append, List.length_cons, List.length_nil, Nat.reduceBEq, Nat.reduceAdd, Nat.reduceSub, ta, tb, tn0, tn1, tn2, tn3, tn4, tn5, tn6, tn7, tn8, tn9, tn10, tn11, tn12, zk_61, zl_61, bX12_hardOf_19]
  rw [n_cl (by omega)]
  refine ⟨fun c => ?_, fun c => ⟨n_zin (by omega) (by decide), ?_⟩⟩
  · rw [if_pos c] at hK; exact hK
  · rw [if_neg c] at hK; exact hK
theorem nmv_R {M : zI} {b : Nat} {T : aT} {S : aS} (hS : RS M b T S) {h w : Nat} (hh : h < T.1 0) (hw : w < T.1 1) (x y : Int32) : nmv (coldR M b h) (agedR M h) (hardR M w) x y (M 77 0 (6 * b + h)) (M 86 0 b) = anm S h w x y := by
  unfold anm
  obtain ⟨a1, a2, a3⟩ := hS.1 h hh
  rw [a1, a2, a3, (hS.2.1 w hw).1, hS.2.2.2.1]
theorem nmv_inB {a0 a1 a2 a3 a4 a5 a6 : Int32} : ∀ q, inB (nmv a0 a1 a2 a3 a4 a5 a6 q) := by
  intro q
  unfold nmv
  split <;> exact inB_i _
theorem p_layNames {K : zQ} {I : zI} {L : zJ} {P : zP} {b : Nat} {h w : Nat} {x y : Int32} (hb : b < 2) (hh : h < 6) (hw : w < 4)
    (hK : ∀ L' : zJ, zeL L L' 74 → (∀ q, q < 7 → L' 74 0 q = nmv (coldR I b h) (agedR I h) (hardR I w) x y (I 77 0 (6 * b + h)) (I 86 0 b) q) → K [] (I, L', P)) : mX12_layNames K [.inr (.inr (12, 0)), .inl (nI b), .inl (nI h), .inl (nI w), .inl x, .inl y] (I, L, P) := by
  have z0 : zin 0 7 := by unfold zin; decide
  have z1 : zin 1 7 := by unfold zin; decide
  have z2 : zin 2 7 := by unfold zin; decide
  have z3 : zin 3 7 := by unfold zin; decide
  have z4 : zin 4 7 := by unfold zin; decide
  have z5 : zin 5 7 := by unfold zin; decide
  have z6 : zin 6 7 := by unfold zin; decide
  show bX12_layNames_0 K [some (.inr (.inr (12,0))), some (.inl (nI b)), some (.inl (nI h)), some (.inl (nI w)), some (.inl x), some (.inl y)] [] (I, L, P)
  unfold bX12_layNames_0
  dsimp only [x_int, x_lng, x_ild, x_lld, x_ald, x_ist, x_ast, x_lst, x_inc, x_ii, x_id, x_i, x_ll, x_ld, x_l, x_cmp, x_i2l, x_l2i, x_if, x_ic, x_dup, x_pop, x_dup2, x_gI, x_gL, x_gR, x_g1, x_g0, x_gP, x_pI, x_pZ, x_pL, x_pP, x_al, x_as, x_all, x_asl, x_alr, x_len, x_cpy, x_m2, x_m1, x_m2l, x_m1l, x_call, x_cv, x_ri, x_rz, x_rl, x_rv, zg, zset, zbef, zlong, zcat, cond_true, cond_false, List.take, List.drop, rv1, rv2, rv3, rv4, rv5, rv6, rv7, sm0, sm1, bl0, bl1, bl2, bl3, bl4, bl5, bl6, bl7, bl8, List.nil_append, List.cons_append, List.length_cons, List.length_nil, Nat.reduceBEq, Nat.reduceAdd, Nat.reduceSub, ta, tb, tn0, tn1, tn2, tn3, tn4, tn5, tn6, tn7, tn8, tn9, tn10, tn11, tn12]
  refine p_coldIn hb hh ?_
  dsimp only [x_int, x_lng, x_ild, x_lld, x_ald, x_ist, x_ast, x_lst, x_inc, x_ii, x_id, x_i, x_ll, x_ld, x_l, x_cmp, x_i2l, x_l2i, x_if, x_ic, x_dup, x_pop, x_dup2, x_gI, x_gL, x_gR, x_g1, x_g0, x_gP, x_pI, x_pZ, x_pL, x_pP, x_al, x_as, x_all, x_asl, x_alr, x_len, x_cpy, x_m2, x_m1, x_m2l, x_m1l, x_call, x_cv, x_ri, x_rz, x_rl, x_rv, zg, zset, zbef, zlong, zcat, cond_true, cond_false, List.take, List.drop, rv1, rv2, rv3, rv4, rv5, rv6, rv7, sm0, sm1, bl0, bl1, bl2, bl3, bl4, bl5, bl6, bl7, bl8, List.nil_append, List.cons_append, List.length_cons, List.length_nil, Nat.reduceBEq, Nat.reduceAdd, Nat.reduceSub, ta, tb, tn0, tn1, tn2, tn3, tn4, tn5, tn6, tn7, tn8, tn9, tn10, tn11, tn12, zk_74, zl_74]
  refine ⟨z0, p_agedOf (L := (zsL (I, L, P) 74 0 0 (coldR I b h).toInt64).2.1) hh ?_⟩
  dsimp only [x_int, x_lng, x_ild, x_lld, x_ald, x_ist, x_ast, x_lst, x_inc, x_ii, x_id, x_i, x_ll, x_ld, x_l, x_cmp, x_i2l, x_l2i, x_if, x_ic, x_dup, x_pop, x_dup2, x_gI, x_gL, x_gR, x_g1, x_g0, x_gP, x_pI, x_pZ, x_pL, x_pP, x_al, x_as, x_all, x_asl, x_alr, x_len, x_cpy, x_m2, x_m1, x_m2l, x_m1l, x_call, x_cv, x_ri, x_rz, x_rl, x_rv, zg, zset, zbef, zlong, zcat, cond_true, cond_false, List.take, List.drop, rv1, rv2, rv3, rv4, rv5, rv6, rv7, sm0, sm1, bl0, bl1, bl2, bl3, bl4, bl5, bl6, bl7, bl8, List.nil_append, List.cons_append, List.length_cons, List.length_nil, Nat.reduceBEq, Nat.reduceAdd, Nat.reduceSub, ta, tb, tn0, tn1, tn2, tn3, tn4, tn5, tn6, tn7, tn8, tn9, tn10, tn11, tn12, zk_74, zl_74]
  refine ⟨z1, p_hardOf (L := (zsL (zsL (I, L, P) 74 0 0 (coldR I b h).toInt64) 74 0 1 (agedR I h).toInt64).2.1) hw ?_⟩
  dsimp only [x_int, x_lng, x_ild, x_lld, x_ald, x_ist, x_ast, x_lst, x_inc, x_ii, x_id, x_i, x_ll, x_ld, x_l, x_cmp, x_i2l, x_l2i, x_if, x_ic, x_dup, x_pop, x_dup2, x_gI, x_gL, x_gR, x_g1, x_g0, x_gP, x_pI, x_pZ, x_pL, x_pP, x_al, x_as, x_all, x_asl, x_alr, x_len, x_cpy, x_m2, x_m1, x_m2l, x_m1l, x_call, x_cv, x_ri, x_rz, x_rl, x_rv, zg, zset, zbef, zlong, zcat, cond_true, cond_false, List.take, List.drop, rv1, rv2, rv3, rv4, rv5, rv6, rv7, sm0, sm1, bl0, bl1, bl2, bl3, bl4, bl5, bl6, bl7, bl8, List.nil_append, List.cons_append, List.length_cons, List.length_nil, Nat.reduceBEq, Nat.reduceAdd, Nat.reduceSub, ta, tb, tn0, tn1, tn2, tn3, tn4, tn5, tn6, tn7, tn8, tn9, tn10, tn11, tn12, zk_74, zl_74, zk_77, zl_77, zk_86, zl_86]
  rw [n6, n_cl (n := 6 * b + h) (by omega), n_cl (n := b) (by omega)]
  refine ⟨z2, z3, z4, n_zin (by omega) (by decide), z5, n_zin (by omega) (by decide), z6, ?_⟩
  refine hK _ ?_ ?_
  · intro a b9 c ha
    simp only [zsL, ha, false_and, if_false]
  · intro q hq
    have : q = 0 ∨ q = 1 ∨ q = 2 ∨ q = 3 ∨ q = 4 ∨ q = 5 ∨ q = 6 := by omega
    rcases this with rfl | rfl | rfl | rfl | rfl | rfl | rfl <;> simp [zsL, nmv]
