theorem p_clear {K : zQ} {I : zI} {L : zJ} {P : zP} {d : Nat} (d2 : d < 2) (hK : ∀ I' : zI, (∀ a b c, ¬ (a = 9 ∧ b = d) → ¬ (a = 2 ∧ 3 * d ≤ b ∧ b < 3 * d + 3) → I' a b c = I a b c) → CQ I' d (T00, false, false) → I' 9 d 12 = 0 → K [] (I', L, P)) : mX9_clear K [.inr (.inr (9, d))] (I, L, P) := by
  show bX9_clear_0 K [some (.inr (.inr (9,d))), none] [] (I, L, P)
  unfold bX9_clear_0
  dsimp only [x_int, x_lng, x_ild, x_lld, x_ald, x_ist, x_ast, x_lst, x_inc, x_ii, x_id, x_i, x_ll, x_ld, x_l, x_cmp, x_i2l, x_l2i, x_if, x_ic, x_dup, x_pop, x_dup2, x_gI, x_gL, x_gR, x_g1, x_g0, x_gP, x_pI, x_pZ, x_pL, x_pP, x_al, x_as, x_all, x_asl, x_alr, x_len, x_cpy, x_m2, x_m1, x_m2l, x_m1l, x_call, x_cv, x_ri, x_rz, x_rl, x_rv, zg, zset, zbef, zlong, zcat, cond_true, cond_false, List.take, List.drop, rv1, rv2, rv3, rv4, rv5, rv6, rv7, sm0, sm1, bl0, bl1, bl2, bl3, bl4, bl5, bl6, bl7, bl8, List.nil_append, List.cons_append, List.length_cons, List.length_nil, Nat.reduceBEq, Nat.reduceAdd, Nat.reduceSub, ta, tb, tn0, tn1, tn2, tn3, tn4, tn5, tn6, tn7, tn8, tn9, tn10, tn11, tn12]
  obtain ⟨J1, e1, y1, k1⟩ := zsI_ex I L P 9 d 4 0
  rw [e1]
  obtain ⟨J2, e2, y2, k2⟩ := zsI_ex J1 L P 9 d 5 0
  rw [e2]
  obtain ⟨J3, e3, y3, k3⟩ := zsI_ex J2 L P 9 d 6 0
  rw [e3]
  obtain ⟨J4, e4, y4, k4⟩ := zsI_ex J3 L P 9 d 7 3
  rw [e4]
  obtain ⟨J5, e5, y5, k5⟩ := zsI_ex J4 L P 9 d 8 0
  rw [e5]
  obtain ⟨J6, e6, y6, k6⟩ := zsI_ex J5 L P 9 d 9 0
  rw [e6]
  obtain ⟨J7, e7, y7, k7⟩ := zsI_ex J6 L P 9 d 10 0
  rw [e7]
  obtain ⟨J8, e8, y8, k8⟩ := zsI_ex J7 L P 9 d 11 0
  rw [e8]
  obtain ⟨J9, e9, y9, k9⟩ := zsI_ex J8 L P 9 d 12 0
  rw [e9]
  obtain ⟨J10, e10, y10, k10⟩ := zsI_ex J9 L P 9 d 13 (-1)
  rw [e10]
  obtain ⟨J11, e11, y11, k11⟩ := zsI_ex J10 L P 9 d 14 (-1)
  rw [e11]
  refine ⟨Or.inl rfl, Or.inl rfl, ?_⟩
  have al : ∀ a b c, ¬ (a = 9 ∧ b = d) → J11 a b c = I a b c := fun a b c u => by
    rw [k11 a b c (by omega), k10 a b c (by omega), k9 a b c (by omega), k8 a b c (by omega), k7 a b c (by omega), k6 a b c (by omega), k5 a b c (by omega), k4 a b c (by omega), k3 a b c (by omega), k2 a b c (by omega), k1 a b c (by omega)]
  have z4 : J11 9 d 4 = 0 := by rw [k11 _ _ _ (by omega), k10 _ _ _ (by omega), k9 _ _ _ (by omega), k8 _ _ _ (by omega), k7 _ _ _ (by omega), k6 _ _ _ (by omega), k5 _ _ _ (by omega), k4 _ _ _ (by omega), k3 _ _ _ (by omega), k2 _ _ _ (by omega)]; exact y1
  have z5 : J11 9 d 5 = 0 := by rw [k11 _ _ _ (by omega), k10 _ _ _ (by omega), k9 _ _ _ (by omega), k8 _ _ _ (by omega), k7 _ _ _ (by omega), k6 _ _ _ (by omega), k5 _ _ _ (by omega), k4 _ _ _ (by omega), k3 _ _ _ (by omega)]; exact y2
  have z6 : J11 9 d 6 = 0 := by rw [k11 _ _ _ (by omega), k10 _ _ _ (by omega), k9 _ _ _ (by omega), k8 _ _ _ (by omega), k7 _ _ _ (by omega), k6 _ _ _ (by omega), k5 _ _ _ (by omega), k4 _ _ _ (by omega)]; exact y3
  have z7 : J11 9 d 7 = 3 := by rw [k11 _ _ _ (by omega), k10 _ _ _ (by omega), k9 _ _ _ (by omega), k8 _ _ _ (by omega), k7 _ _ _ (by omega), k6 _ _ _ (by omega), k5 _ _ _ (by omega)]; exact y4
  have z8 : J11 9 d 8 = 0 := by rw [k11 _ _ _ (by omega), k10 _ _ _ (by omega), k9 _ _ _ (by omega), k8 _ _ _ (by omega), k7 _ _ _ (by omega), k6 _ _ _ (by omega)]; exact y5
  have z9 : J11 9 d 9 = 0 := by rw [k11 _ _ _ (by omega), k10 _ _ _ (by omega), k9 _ _ _ (by omega), k8 _ _ _ (by omega), k7 _ _ _ (by omega)]; exact y6
  have z10 : J11 9 d 10 = 0 := by rw [k11 _ _ _ (by omega), k10 _ _ _ (by omega), k9 _ _ _ (by omega), k8 _ _ _ (by omega)]; exact y7
  have z11 : J11 9 d 11 = 0 := by rw [k11 _ _ _ (by omega), k10 _ _ _ (by omega), k9 _ _ _ (by omega)]; exact y8
  have z12 : J11 9 d 12 = 0 := by rw [k11 _ _ _ (by omega), k10 _ _ _ (by omega)]; exact y9
  have z13 : J11 9 d 13 = -1 := by rw [k11 _ _ _ (by omega)]; exact y10
  refine zinv 3 (fun w Z M => ∃ I' : zI, Z = [some (.inr (.inr (9, d))), some (.inl (nI w))] ∧ M = (I', L, P) ∧ (∀ a b c, ¬ (a = 2 ∧ 3 * d ≤ b ∧ b < 3 * d + 3) → I' a b c = J11 a b c) ∧ ∀ q, q < w → I' 2 (3 * d + q) 2 = 0) ?_ ?_ ⟨J11, rfl, rfl, fun _ _ _ _ => rfl, fun q hq => by omega⟩
  · rintro w Z M hw ⟨I', rfl, rfl, q1, q2⟩ self hself
    dsimp only [x_int, x_lng, x_ild, x_lld, x_ald, x_ist, x_ast, x_lst, x_inc, x_ii, x_id, x_i, x_ll, x_ld, x_l, x_cmp, x_i2l, x_l2i, x_if, x_ic, x_dup, x_pop, x_dup2, x_gI, x_gL, x_gR, x_g1, x_g0, x_gP, x_pI, x_pZ, x_pL, x_pP, x_al, x_as, x_all, x_asl, x_alr, x_len, x_cpy, x_m2, x_m1, x_m2l, x_m1l, x_call, x_cv, x_ri, x_rz, x_rl, x_rv, zg, zset, zbef, zlong, zcat, cond_true, cond_false, List.take, List.drop, rv1, rv2, rv3, rv4, rv5, rv6, rv7, sm0, sm1, bl0, bl1, bl2, bl3, bl4, bl5, bl6, bl7, bl8, List.nil_append, List.cons_append, List.length_cons, List.length_nil, Nat.reduceBEq, Nat.reduceAdd, Nat.reduceSub, ta, tb, tn0, tn1, tn2, tn3, tn4, tn5, tn6, tn7, tn8, tn9, tn10, tn11, tn12, zl_46]
    rw [n_cl (n := w) (by omega), n_succ w]
    obtain ⟨A1, g1, v1, h1⟩ := zsI_ex I' L P 2 (3 * d + w) 2 0
    rw [g1]
    refine ⟨fun z => absurd z (lt_go (n := 3) rfl (by omega) hw), fun _ => ⟨n_zin hw (by decide), hself _ _ ⟨A1, rfl, rfl, fun a b c u => (h1 a b c (by omega)).trans (q1 a b c u), fun q hq => ?_⟩⟩⟩
    by_cases e : q = w
    · subst e; exact v1
    · rw [h1 _ _ _ (by omega)]; exact q2 q (by omega)
  · rintro Z M ⟨I', rfl, rfl, q1, q2⟩ self
    dsimp only [x_int, x_lng, x_ild, x_lld, x_ald, x_ist, x_ast, x_lst, x_inc, x_ii, x_id, x_i, x_ll, x_ld, x_l, x_cmp, x_i2l, x_l2i, x_if, x_ic, x_dup, x_pop, x_dup2, x_gI, x_gL, x_gR, x_g1, x_g0, x_gP, x_pI, x_pZ, x_pL, x_pP, x_al, x_as, x_all, x_asl, x_alr, x_len, x_cpy, x_m2, x_m1, x_m2l, x_m1l, x_call, x_cv, x_ri, x_rz, x_rl, x_rv, zg, zset, zbef, zlong, zcat, cond_true, cond_false, List.take, List.drop, rv1, rv2, rv3, rv4, rv5, rv6, rv7, sm0, sm1, bl0, bl1, bl2, bl3, bl4, bl5, bl6, bl7, bl8, List.nil_append, List.cons_append, List.length_cons, List.length_nil, Nat.reduceBEq, Nat.reduceAdd, Nat.reduceSub, ta, tb, tn0, tn1, tn2, tn3, tn4, tn5, tn6, tn7, tn8, tn9, tn10, tn11, tn12]
    have o9 : ∀ c, I' 9 d c = J11 9 d c := fun c => q1 _ _ _ (by omega)
    refine ⟨fun _ => hK I' (fun a b c u1 u2 => (q1 a b c u2).trans (al a b c u1)) ⟨⟨d2, ⟨(o9 _).trans z4, (o9 _).trans z5, (o9 _).trans z6⟩, ⟨Nat.zero_le _, Nat.zero_le _, Nat.zero_le _⟩, fun x hx => absurd hx (Nat.not_lt_zero _), fun x hx => absurd hx (Nat.not_lt_zero _), fun x hx => absurd hx (Nat.not_lt_zero _), ⟨(o9 _).trans z7, (o9 _).trans z8, (o9 _).trans z11⟩, fun w hw => ⟨Nat.zero_le _, q2 w hw, fun i hi => absurd hi (Nat.not_lt_zero _)⟩⟩, fun x hx => absurd hx (Nat.not_lt_zero _), (o9 _).trans z9, (o9 _).trans z10, (o9 _).trans z13, (o9 _).trans y11⟩ ((o9 _).trans z12), fun z => absurd z (lt_out (n := 3) rfl)⟩
def rdO (B : Nat → Nat) (n m d : Nat) (r : (Nat × Nat) ⊕ (aQ × Nat)) (I : zI) : Prop := match r with
  | .inl (e, j) => I 5 0 8 = nI e ∧ (1 ≤ e ∧ e ≤ 4) ∧ I 5 0 9 = nI (stn B n j)
  | .inr (Q, k) => I 5 0 8 = 0 ∧ I 5 0 9 = -1 ∧ CQ I d Q ∧ I 9 d 12 = nI k
theorem p_isRead {K : zQ} {I : zI} {L : zJ} {P : zP} {B : Nat → Nat} {n d : Nat} (hB : ∀ i, i < n → B i < 256) (n7 : n ≤ 700) (d2 : d < 2) (ht : ∀ i, i < n → I 47 0 i &&& 255 = nI (B i)) (hw : RCw I) (hK : ∀ (I' : zI) (P' : zP), frD d I I' → (∀ a b c, ¬ a = 5 → ¬ a = 7 → P' a b c = P a b c) → rdO B n 0 d (rdA B n) I' → K [.inl (match rdA B n with
    | .inl _ => 0
    | .inr _ => 1)] (I', L, P')) : mX5_isRead K [rdR, .inr (.inr (47, 0)), .inl (nI n), .inr (.inr (9, d))] (I, L, P) := by
  obtain ⟨m, hE⟩ := end_ex hB
  obtain ⟨m1, m2, m3⟩ := hE
  show bX5_isRead_0 K [some (.inr (.inr (5,0))), some (.inr (.inr (47,0))), some (.inl (nI n)), some (.inr (.inr (9,d))), none] [] (I, L, P)
  unfold bX5_isRead_0
  dsimp only [x_int, x_lng, x_ild, x_lld, x_ald, x_ist, x_ast, x_lst, x_inc, x_ii, x_id, x_i, x_ll, x_ld, x_l, x_cmp, x_i2l, x_l2i, x_if, x_ic, x_dup, x_pop, x_dup2, x_gI, x_gL, x_gR, x_g1, x_g0, x_gP, x_pI, x_pZ, x_pL, x_pP, x_al, x_as, x_all, x_asl, x_alr, x_len, x_cpy, x_m2, x_m1, x_m2l, x_m1l, x_call, x_cv, x_ri, x_rz, x_rl, x_rv, zg, zset, zbef, zlong, zcat, cond_true, cond_false, List.take, List.drop, rv1, rv2, rv3, rv4, rv5, rv6, rv7, sm0, sm1, bl0, bl1, bl2, bl3, bl4, bl5, bl6, bl7, bl8, List.nil_append, List.cons_append, List.length_cons, List.length_nil, Nat.reduceBEq, Nat.reduceAdd, Nat.reduceSub, ta, tb, tn0, tn1, tn2, tn3, tn4, tn5, tn6, tn7, tn8, tn9, tn10, tn11, tn12]
  obtain ⟨P1, eP, wP, fP⟩ := zsP_ex I L P 5 0 3 d
  rw [eP]
  dsimp only
  rw [wP]
  refine ⟨d2, p_clear d2 (fun I1 f1 q1 l1 => ?_)⟩
  dsimp only [x_int, x_lng, x_ild, x_lld, x_ald, x_ist, x_ast, x_lst, x_inc, x_ii, x_id, x_i, x_ll, x_ld, x_l, x_cmp, x_i2l, x_l2i, x_if, x_ic, x_dup, x_pop, x_dup2, x_gI, x_gL, x_gR, x_g1, x_g0, x_gP, x_pI, x_pZ, x_pL, x_pP, x_al, x_as, x_all, x_asl, x_alr, x_len, x_cpy, x_m2, x_m1, x_m2l, x_m1l, x_call, x_cv, x_ri, x_rz, x_rl, x_rv, zg, zset, zbef, zlong, zcat, cond_true, cond_false, List.take, List.drop, rv1, rv2, rv3, rv4, rv5, rv6, rv7, sm0, sm1, bl0, bl1, bl2, bl3, bl4, bl5, bl6, bl7, bl8, List.nil_append, List.cons_append, List.length_cons, List.length_nil, Nat.reduceBEq, Nat.reduceAdd, Nat.reduceSub, ta, tb, tn0, tn1, tn2, tn3, tn4, tn5, tn6, tn7, tn8, tn9, tn10, tn11, tn12]
  obtain ⟨J2, e2, y2, k2⟩ := zsI_ex I1 L P1 5 0 8 0
  rw [e2]
  obtain ⟨J3, e3, y3, k3⟩ := zsI_ex J2 L P1 5 0 9 (-1)
  rw [e3]
  have a3 : ∀ a b c, ¬ (a = 9 ∧ b = d) → ¬ (a = 2 ∧ 3 * d ≤ b ∧ b < 3 * d + 3) → ¬ (a = 5 ∧ b = 0 ∧ (c = 8 ∨ c = 9)) → J3 a b c = I a b c := fun a b c u1 u2 u3 => by
    rw [k3 a b c (by omega), k2 a b c (by omega), f1 a b c u1 u2]
  refine p_scan hB ⟨m1, m2, m3⟩ n7 (fun i hi => by rw [a3 _ _ _ (by omega) (by omega) (by omega)]; exact ht i hi) (fun i hi => (a3 _ _ _ (by omega) (by omega) (by omega)).trans (hw i hi)) (fun I4 P4 f4 p4 t4 c4 => ?_)
  have hx : rdX B n m d P4 := ⟨⟨m1, m2, m3⟩, n7, (p4 _ _ _ (by decide)).trans wP, d2⟩
  have pf : ∀ a b c, ¬ a = 5 → ¬ a = 7 → P4 a b c = P a b c := fun a b c u1 u2 => (p4 a b c u2).trans (fP a b c (by omega))
  have st4 : stC B n m (.inl 0) I4 := ⟨(f4 _ _ _ (by omega)).trans ((k3 _ _ _ (by decide)).trans y2), (f4 _ _ _ (by omega)).trans y3, by omega, c4⟩
  have Q4 : CQ I4 d (T00, false, false) := q1.r (fun a b c u => by rw [f4 a b c (by omega), k3 a b c (by omega), k2 a b c (by omega)])
  have l4 : I4 9 d 12 = nI 0 := by rw [f4 _ _ _ (by omega), k3 _ _ _ (by omega), k2 _ _ _ (by omega)]; exact l1
  have fD4 : frD d I I4 := fun a b c u => by
    rw [f4 a b c (fun v => u (by unfold dK; omega))]
    exact a3 a b c (fun v => u (by unfold dK; omega)) (fun v => u (by unfold dK; omega)) (fun v => u (by unfold dK; omega))
  dsimp only [x_int, x_lng, x_ild, x_lld, x_ald, x_ist, x_ast, x_lst, x_inc, x_ii, x_id, x_i, x_ll, x_ld, x_l, x_cmp, x_i2l, x_l2i, x_if, x_ic, x_dup, x_pop, x_dup2, x_gI, x_gL, x_gR, x_g1, x_g0, x_gP, x_pI, x_pZ, x_pL, x_pP, x_al, x_as, x_all, x_asl, x_alr, x_len, x_cpy, x_m2, x_m1, x_m2l, x_m1l, x_call, x_cv, x_ri, x_rz, x_rl, x_rv, zg, zset, zbef, zlong, zcat, cond_true, cond_false, List.take, List.drop, rv1, rv2, rv3, rv4, rv5, rv6, rv7, sm0, sm1, bl0, bl1, bl2, bl3, bl4, bl5, bl6, bl7, bl8, List.nil_append, List.cons_append, List.length_cons, List.length_nil, Nat.reduceBEq, Nat.reduceAdd, Nat.reduceSub, ta, tb, tn0, tn1, tn2, tn3, tn4, tn5, tn6, tn7, tn8, tn9, tn10, tn11, tn12]
  have out : ∀ (I' : zI) (P' : zP) (zs : zL), frD d I I' → (∀ a b c, ¬ a = 5 → ¬ a = 7 → P' a b c = P a b c) → rdO B n 0 d (rdA B n) I' → bX5_isRead_75 K (some rdR :: zs) [] (I', L, P') := fun I' P' zs g1 g2 g3 => by
    unfold bX5_isRead_75
    dsimp only [x_int, x_lng, x_ild, x_lld, x_ald, x_ist, x_ast, x_lst, x_inc, x_ii, x_id, x_i, x_ll, x_ld, x_l, x_cmp, x_i2l, x_l2i, x_if, x_ic, x_dup, x_pop, x_dup2, x_gI, x_gL, x_gR, x_g1, x_g0, x_gP, x_pI, x_pZ, x_pL, x_pP, x_al, x_as, x_all, x_asl, x_alr, x_len, x_cpy, x_m2, x_m1, x_m2l, x_m1l, x_call, x_cv, x_ri, x_rz, x_rl, x_rv, zg, zset, zbef, zlong, zcat, cond_true, cond_false, List.take, List.drop, rv1, rv2, rv3, rv4, rv5, rv6, rv7, sm0, sm1, bl0, bl1, bl2, bl3, bl4, bl5, bl6, bl7, bl8, List.nil_append, List.cons_append, List.length_cons, List.length_nil, Nat.reduceBEq, Nat.reduceAdd, Nat.reduceSub, ta, tb, tn0, tn1, tn2, tn3, tn4, tn5, tn6, tn7, tn8, tn9, tn10, tn11, tn12, bX5_isRead_87]
    have hk := hK I' P' g1 g2 g3
    cases e : rdA B n with
    | inl x =>
      rw [e] at g3 hk
      obtain ⟨a, j⟩ := x
      refine ⟨fun z => ?_, fun _ => ⟨Or.inl rfl, hk⟩⟩
      rw [g3.1] at z
      have z : nI a = nI 0 := z
      have := g3.2.1
      rw [n_eq (by omega) (by omega)] at z
      omega
    | inr x =>
      rw [e] at g3 hk
      obtain ⟨Q, k⟩ := x
      exact ⟨fun _ => ⟨Or.inr rfl, hk⟩, fun z => absurd g3.1 z⟩
  refine zmea (fun k Z M => ∃ (I' : zI) (P' : zP) (q : Nat), Z = [some rdR, some (.inr (.inr (47, 0))), some (.inl (nI n)), some (.inr (.inr (9, d))), some (.inl (nI q))] ∧ M = (I', L, P') ∧ frD d I I' ∧ (∀ a b c, ¬ a = 5 → ¬ a = 7 → P' a b c = P a b c) ∧ rdX B n m d P' ∧ TKm B n m I' ∧ q ≤ n + 1 ∧
      ((∃ (i : Nat) (Q : aQ), k = n + 2 - i ∧ q ≤ i ∧ stC B n m (.inl i) I' ∧ CQ I' d Q ∧ QW Q.1 ∧ I' 9 d 12 = nI q ∧ ∃ f, n + 1 - i ≤ f ∧ rdA B n = lrun B n f i Q q) ∨
      (∃ e : Nat × Nat, k = 0 ∧ stC B n m (.inr e) I' ∧ rdA B n = .inl e))) ?_ (n + 2) ⟨I4, P4, 0, rfl, rfl, fD4, pf, hx, t4, by omega, Or.inl ⟨0, _, rfl, Nat.le_refl _, st4, Q4, QW_0, l4, n + 1, by omega, rfl⟩⟩
  rintro k Z M ⟨I', P', q, rfl, rfl, g1, g2, g3, g4, g5, hz⟩ self hself
  rcases hz with ⟨i, Q, hk, hq, hs, hQ, hQW, hl, f, hf, hr⟩ | ⟨e, hk, hs, hr⟩
  · have im := hs.2.2.1
    have kl := kd_le B n i
    obtain ⟨f0, ef⟩ : ∃ f0, f = f0 + 1 := ⟨f - 1, by omega⟩
    rw [ef, lrun_s] at hr
    dsimp only [x_int, x_lng, x_ild, x_lld, x_ald, x_ist, x_ast, x_lst, x_inc, x_ii, x_id, x_i, x_ll, x_ld, x_l, x_cmp, x_i2l, x_l2i, x_if, x_ic, x_dup, x_pop, x_dup2, x_gI, x_gL, x_gR, x_g1, x_g0, x_gP, x_pI, x_pZ, x_pL, x_pP, x_al, x_as, x_all, x_asl, x_alr, x_len, x_cpy, x_m2, x_m1, x_m2l, x_m1l, x_call, x_cv, x_ri, x_rz, x_rl, x_rv, zg, zset, zbef, zlong, zcat, cond_true, cond_false, List.take, List.drop, rv1, rv2, rv3, rv4, rv5, rv6, rv7, sm0, sm1, bl0, bl1, bl2, bl3, bl4, bl5, bl6, bl7, bl8, List.nil_append, List.cons_append, List.length_cons, List.length_nil, Nat.reduceBEq, Nat.reduceAdd, Nat.reduceSub, ta, tb, tn0, tn1, tn2, tn3, tn4, tn5, tn6, tn7, tn8, tn9, tn10, tn11, tn12]
    rw [g4.1, hs.1, hs.2.2.2.2.1]
    refine ⟨fun z => ?_, fun _ => ⟨fun _ => ⟨fun z => ?_, fun z => ?_⟩, fun z => absurd rfl z⟩⟩
    · have z : nI (m + 1) ≤ nI q := z
      rw [n_le (by omega) (by omega)] at z
      omega
    · have z : nI (kd B n i) = nI 34 := z
      rw [n_eq (by omega) (by omega)] at z
      rw [if_pos z] at hr
      exact out I' P' _ g1 g2 (by rw [hr]; exact ⟨hs.1, hs.2.1, hQ, hl⟩)
    · have z : ¬ nI (kd B n i) = nI 34 := z
      rw [n_eq (by omega) (by omega)] at z
      rw [if_neg z] at hr
      refine p_readLine g3 g4 hQ hQW.2.2.2.2.2.2 hs hl (fun I5 P5 f5 p5 t5 s5 q5 => ?_)
      dsimp only [x_int, x_lng, x_ild, x_lld, x_ald, x_ist, x_ast, x_lst, x_inc, x_ii, x_id, x_i, x_ll, x_ld, x_l, x_cmp, x_i2l, x_l2i, x_if, x_ic, x_dup, x_pop, x_dup2, x_gI, x_gL, x_gR, x_g1, x_g0, x_gP, x_pI, x_pZ, x_pL, x_pP, x_al, x_as, x_all, x_asl, x_alr, x_len, x_cpy, x_m2, x_m1, x_m2l, x_m1l, x_call, x_cv, x_ri, x_rz, x_rl, x_rv, zg, zset, zbef, zlong, zcat, cond_true, cond_false, List.take, List.drop, rv1, rv2, rv3, rv4, rv5, rv6, rv7, sm0, sm1, bl0, bl1, bl2, bl3, bl4, bl5, bl6, bl7, bl8, List.nil_append, List.cons_append, List.length_cons, List.length_nil, Nat.reduceBEq, Nat.reduceAdd, Nat.reduceSub, ta, tb, tn0, tn1, tn2, tn3, tn4, tn5, tn6, tn7, tn8, tn9, tn10, tn11, tn12]
      rw [n_succ q]
      have g3' : rdX B n m d P5 := g3.p (p5 _ _ _ (by decide))
      have g2' : ∀ a b c, ¬ a = 5 → ¬ a = 7 → P5 a b c = P a b c := fun a b c u1 u2 => (p5 a b c (by omega)).trans (g2 a b c u1 u2)
      cases e : lnA B n Q i with
      | mk st Q1 =>
        have lq : ∀ j, (lnA B n Q i).1 = .inl j → QW (lnA B n Q i).2.1 ∧ i < j := fun j e => lnA_QW hQW e
        rw [e] at s5 q5 hr lq
        cases st with
        | inr x => exact hself 0 _ _ (by omega) ⟨I5, P5, q + 1, rfl, rfl, g1.tr f5, g2', g3', t5, by omega, Or.inr ⟨x, rfl, s5, hr⟩⟩
        | inl j =>
          obtain ⟨r1, r2⟩ := q5 j rfl
          obtain ⟨r3, r4⟩ := lq j rfl
          dsimp only at r3 r4 hr
          refine hself (n + 2 - j) _ _ (by omega) ⟨I5, P5, q + 1, rfl, rfl, g1.tr f5, g2', g3', t5, by omega, Or.inl ⟨j, Q1, rfl, by omega, s5, r1, r3, r2, f0, by omega, hr⟩⟩
  · dsimp only [x_int, x_lng, x_ild, x_lld, x_ald, x_ist, x_ast, x_lst, x_inc, x_ii, x_id, x_i, x_ll, x_ld, x_l, x_cmp, x_i2l, x_l2i, x_if, x_ic, x_dup, x_pop, x_dup2, x_gI, x_gL, x_gR, x_g1, x_g0, x_gP, x_pI, x_pZ, x_pL, x_pP, x_al, x_as, x_all, x_asl, x_alr, x_len, x_cpy, x_m2, x_m1, x_m2l, x_m1l, x_call, x_cv, x_ri, x_rz, x_rl, x_rv, zg, zset, zbef, zlong, zcat, cond_true, cond_false, List.take, List.drop, rv1, rv2, rv3, rv4, rv5, rv6, rv7, sm0, sm1, bl0, bl1, bl2, bl3, bl4, bl5, bl6, bl7, bl8, List.nil_append, List.cons_append, List.length_cons, List.length_nil, Nat.reduceBEq, Nat.reduceAdd, Nat.reduceSub, ta, tb, tn0, tn1, tn2, tn3, tn4, tn5, tn6, tn7, tn8, tn9, tn10, tn11, tn12]
    rcases hs.ft with ⟨-, j, ej⟩ | ⟨t0, -⟩
    · cases ej
    · have o : rdO B n 0 d (rdA B n) I' := by rw [hr]; exact hs
      exact ⟨fun _ => out I' P' _ g1 g2 o, fun _ => ⟨fun z => absurd z t0, fun _ => out I' P' _ g1 g2 o⟩⟩
