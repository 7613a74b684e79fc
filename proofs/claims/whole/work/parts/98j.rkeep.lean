-- WHAT IS READ IS KEPT
def Zc (a : Nat) : Nat := if a = 54 then 2 else if a ≤ 57 then 6 else if a = 58 then 36 else if a ≤ 62 then 4 else if a ≤ 65 then 10 else if a ≤ 68 then 3 else 64
def KP (k : Nat) (I I' : zI) : Prop := (∀ a b c, ¬ (b = 0 ∧ 54 ≤ a ∧ a < k ∧ c < Zc a) → I' a b c = I a b c) ∧ ∀ a i, 54 ≤ a → a < k → i < Zc a → I' a 0 i = I a 0 (Zc a + i)
theorem KPs {k : Nat} {I I1 I2 : zI} (h : KP k I I1) (h54 : 54 ≤ k) (e : ∀ a b c, ¬ (a = k ∧ b = 0 ∧ c < Zc k) → I2 a b c = I1 a b c) (v : ∀ i, i < Zc k → I2 k 0 i = I1 k 0 (Zc k + i)) : KP (k + 1) I I2 := by
  refine ⟨fun a b c u => ?_, fun a i u1 u2 u3 => ?_⟩
  · rw [e a b c (fun w => u ⟨w.2.1, by omega, by omega, by rw [w.1]; exact w.2.2⟩)]
    exact h.1 a b c (fun w => u ⟨w.1, w.2.1, by omega, w.2.2.2⟩)
  · by_cases z : a = k
    · subst z
      rw [v i u3]
      exact h.1 _ _ _ (fun w => by omega)
    · rw [e a 0 i (fun w => z w.1)]
      exact h.2 a i u1 (by omega) u3
theorem p_copies {K : zQ} {I : zI} {L : zJ} {P : zP} {ka n : Nat} (hka : (zsrt ka == 1 && zaux ka == 0) = true) (hl : 2 * n ≤ zlen ka) (hl2 : zlen ka < 2147483648) (hK : ∀ I' : zI, (∀ a b c, ¬ (a = ka ∧ b = 0 ∧ c < n) → I' a b c = I a b c) → (∀ i, i < n → I' ka 0 i = I ka 0 (n + i)) → K [] (I', L, P)) : mX12_copies K [.inr (.inr (ka, 0)), .inl (nI n)] (I, L, P) := by
  show bX12_copies_2 K [some (.inr (.inr (ka, 0))), some (.inl (nI n)), some (.inl 0)] [] (I, L, P)
  refine zinv n (fun k Z M => ∃ I' : zI, Z = [some (.inr (.inr (ka, 0))), some (.inl (nI n)), some (.inl (nI k))] ∧ M = (I', L, P) ∧ (∀ a b c, ¬ (a = ka ∧ b = 0 ∧ c < k) → I' a b c = I a b c) ∧ ∀ i, i < k → I' ka 0 i = I ka 0 (n + i)) ?_ ?_ ⟨I, rfl, rfl, fun _ _ _ _ => rfl, fun i hi => by omega⟩
  · rintro k Z M hk ⟨I1, rfl, rfl, r1, r2⟩ self hself
    dsimp only [x_int, x_lng, x_ild, x_lld, x_ald, x_ist, x_ast, x_lst, x_inc, x_ii, x_id, x_i, x_ll, x_ld, x_l, x_cmp, x_i2l, x_l2i, x_if, x_ic, x_dup, x_pop, x_dup2, x_gI, x_gL, x_gR, x_g1, x_g0, x_gP, x_pI, x_pZ, x_pL, x_pP, x_al, x_as, x_all, x_asl, x_alr, x_len, x_cpy, x_m2, x_m1, x_m2l, x_m1l, x_call, x_cv, x_ri, x_rz, x_rl, x_rv, zg, zset, zbef, zlong, zcat, cond_true, cond_false, List.take, List.drop, rv1, rv2, rv3, rv4, rv5, rv6, rv7, sm0, sm1, bl0, bl1, bl2, bl3, bl4, bl5, bl6, bl7, bl8, List.nil_append, List.cons_append, List.length_cons, List.length_nil, Nat.reduceBEq, Nat.reduceAdd, Nat.reduceSub, ta, tb, tn0, tn1, tn2, tn3, tn4, tn5, tn6, tn7, tn8, tn9, tn10, tn11, tn12]
    refine ⟨fun y => absurd y (lt_go (n := n) rfl (by omega) hk), fun _ => ?_⟩
    rw [hka, n_add, n_cl (n := n + k) (by omega), n_cl (n := k) (by omega), n_succ]
    dsimp only [cond_true]
    refine ⟨n_zin (by omega) (by omega), n_zin (by omega) (by omega), ?_⟩
    obtain ⟨J, g, x, f⟩ := zsI_ex I1 L P ka 0 k (I1 ka 0 (n + k))
    rw [g]
    refine hself _ _ ⟨J, rfl, rfl, fun a b c u => (f a b c (fun v => u ⟨v.1, v.2.1, by omega⟩)).trans (r1 a b c (fun v => u ⟨v.1, v.2.1, by omega⟩)), fun i hi => ?_⟩
    by_cases e : i = k
    · subst e; rw [x]; exact r1 _ _ _ (by omega)
    · rw [f _ _ _ (by omega)]; exact r2 i (by omega)
  · rintro Z M ⟨I1, rfl, rfl, r1, r2⟩ self
    dsimp only [x_int, x_lng, x_ild, x_lld, x_ald, x_ist, x_ast, x_lst, x_inc, x_ii, x_id, x_i, x_ll, x_ld, x_l, x_cmp, x_i2l, x_l2i, x_if, x_ic, x_dup, x_pop, x_dup2, x_gI, x_gL, x_gR, x_g1, x_g0, x_gP, x_pI, x_pZ, x_pL, x_pP, x_al, x_as, x_all, x_asl, x_alr, x_len, x_cpy, x_m2, x_m1, x_m2l, x_m1l, x_call, x_cv, x_ri, x_rz, x_rl, x_rv, zg, zset, zbef, zlong, zcat, cond_true, cond_false, List.take, List.drop, rv1, rv2, rv3, rv4, rv5, rv6, rv7, sm0, sm1, bl0, bl1, bl2, bl3, bl4, bl5, bl6, bl7, bl8, List.nil_append, List.cons_append, List.length_cons, List.length_nil, Nat.reduceBEq, Nat.reduceAdd, Nat.reduceSub, ta, tb, tn0, tn1, tn2, tn3, tn4, tn5, tn6, tn7, tn8, tn9, tn10, tn11, tn12]
    exact ⟨fun _ => hK I1 r1 r2, fun y => absurd y (lt_out (n := n) rfl)⟩
