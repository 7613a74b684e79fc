theorem RRo.z {O : aH} {lm : Int32} {I I' : zI} (h : RRo O lm I) (e : ∀ c, c = 69 ∨ c = 70 → I' 12 0 c = I 12 0 c) (e2 : ∀ c, I' 89 0 c = I 89 0 c) : RRo O lm I' := h.e (e _ (Or.inl rfl)) (e _ (Or.inr rfl)) e2
def frZ (I I' : zI) : Prop := ∀ a i c, ¬ (i = 0 ∧ scrR a c) → ¬ (a = 12 ∧ i = 0 ∧ (c = 63 ∨ c = 64 ∨ c = 65 ∨ c = 66 ∨ c = 67)) → I' a i c = I a i c
theorem frZ.rt {I I' : zI} {T : aT} (h : frZ I I') (hT : RT I T) : RT I' T := hT.fr (fun a c q => h a 0 c (fun e => scrR_rt q e.2) (fun e => by have := rtK8 q; omega))
theorem frZ.o {O : aH} {lm : Int32} {I I' : zI} (h : frZ I I') (hO : RRo O lm I) : RRo O lm I' := hO.z (fun c q => h 12 0 c (fun e => by have := e.2; unfold scrR upH at this; omega) (by omega)) (fun c => h 89 0 c (fun e => by have := e.2; unfold scrR upH at this; omega) (by omega))
theorem beat_gt {x δ : Nat} (hx : x ≤ 9) (hδ : δ ≤ 1) : nI x + nI δ ≤ nI x ↔ δ = 0 := by
  rw [n_add, n_le (by omega) (by omega)]; omega
theorem p_isSo {K : zQ} {I : zI} {L : zJ} {P : zP} {A : aA} {m h c : Nat} (wT : WT A.T) (wD : WD A.T) (hT : RT I A.T) (hO : RRo A.O A.lm I) (hOc : ∀ i, i < A.O.1 → match A.O.2 i with
  | .inl _ => True
  | .inr (r, k, _) => r < A.T.1 2 ∧ k < 6) (km : kwn A = nI m) (hm : m ≤ A.O.1) (h24 : A.O.1 ≤ 24) (hh : h < A.T.1 0) (hct : ∀ i, i < m → I 90 0 i = bI (!stk A.O m m i)) (hb : ∀ r, r < A.T.1 2 → ∀ k, k < 6 → I 85 0 (60 + 6 * r + k) = vlu A.T (su (sc0 A.T) 0 h (nI c)) r k) (hK : K [.inl (bI (soA A m h c m))] (I, L, P)) : mX12_isSo K [refR, .inl (nI h)] (I, L, P) := by
  have h6 := hT.h6
  have r10 := hT.r10
  show bX12_isSo_2 K [some refR, some (.inl (nI h)), some (.inl 0), none, none, none] [] (I, L, P)
  refine zinv m (fun i Z M => ∃ z3 z4 z5 : Option zV, Z = [some refR, some (.inl (nI h)), some (.inl (nI i)), z3, z4, z5] ∧ M = (I, L, P) ∧ soA A m h c i = true) ?_ ?_ ⟨none, none, none, rfl, rfl, rfl⟩
  · rintro i Z M hi ⟨z3, z4, z5, rfl, rfl, hs⟩ self hself
    have ss : soA A m h c (i + 1) = (soA A m h c i && soE A m h c i) := rfl
    rw [hs, Bool.true_and] at ss
    have go : soE A m h c i = true → ∀ z3 z4 z5 : Option zV, self [some refR, some (.inl (nI h)), some (.inl (nI (i + 1))), z3, z4, z5] [] (I, L, P) := fun e z3 z4 z5 => hself _ _ ⟨z3, z4, z5, rfl, rfl, ss.trans e⟩
    have out : soE A m h c i = false → K [.inl 0] (I, L, P) := fun e => by
      have dn : ∀ j, soA A m h c (i + 1 + j) = false := fun j => by
        induction j with
        | zero => exact ss.trans e
        | succ j ih =>
          show (soA A m h c (i + 1 + j) && _) = false
          rw [ih]; rfl
      have := dn (m - (i + 1))
      rw [show i + 1 + (m - (i + 1)) = m by omega] at this
      rw [this] at hK
      exact hK
    have h5 := hO.2.2 i (by omega)
    have h7 := hOc i (by omega)
    have z3i : (3 : Int32) * nI i = nI (3 * i) := by rw [show (3 : Int32) = nI 3 from rfl, n_mul]
    have zz : zin (nI (3 * i)) 72 := n_zin (by omega) (by decide)
    dsimp only [x_int, x_lng, x_ild, x_lld, x_ald, x_ist, x_ast, x_lst, x_inc, x_ii, x_id, x_i, x_ll, x_ld, x_l, x_cmp, x_i2l, x_l2i, x_if, x_ic, x_dup, x_pop, x_dup2, x_gI, x_gL, x_gR, x_g1, x_g0, x_gP, x_pI, x_pZ, x_pL, x_pP, x_al, x_as, x_all, x_asl, x_alr, x_len, x_cpy, x_m2, x_m1, x_m2l, x_m1l, x_call, x_cv, x_ri, x_rz, x_rl, x_rv, zg, zset, zbef, zlong, zcat, cond_true, cond_false, List.take, List.drop, rv1, rv2, rv3, rv4, rv5, rv6, rv7, sm0, sm1, bl0, bl1, bl2, bl3, bl4, bl5, bl6, bl7, bl8, List.nil_append, List.cons_append, List.length_cons, List.length_nil, Nat.reduceBEq, Nat.reduceAdd, Nat.reduceSub, ta, tb, tn0, tn1, tn2, tn3, tn4, tn5, tn6, tn7, tn8, tn9, tn10, tn11, tn12]
    refine p_knownBy (A := A) hO ?_
    rw [km]
    dsimp only [x_int, x_lng, x_ild, x_lld, x_ald, x_ist, x_ast, x_lst, x_inc, x_ii, x_id, x_i, x_ll, x_ld, x_l, x_cmp, x_i2l, x_l2i, x_if, x_ic, x_dup, x_pop, x_dup2, x_gI, x_gL, x_gR, x_g1, x_g0, x_gP, x_pI, x_pZ, x_pL, x_pP, x_al, x_as, x_all, x_asl, x_alr, x_len, x_cpy, x_m2, x_m1, x_m2l, x_m1l, x_call, x_cv, x_ri, x_rz, x_rl, x_rv, zg, zset, zbef, zlong, zcat, cond_true, cond_false, List.take, List.drop, rv1, rv2, rv3, rv4, rv5, rv6, rv7, sm0, sm1, bl0, bl1, bl2, bl3, bl4, bl5, bl6, bl7, bl8, List.nil_append, List.cons_append, List.length_cons, List.length_nil, Nat.reduceBEq, Nat.reduceAdd, Nat.reduceSub, ta, tb, tn0, tn1, tn2, tn3, tn4, tn5, tn6, tn7, tn8, tn9, tn10, tn11, tn12, zk_89, zl_89, zk_90, zl_90, zk_63, zl_63, zk_85, zl_85, zk_58, zl_58, bX12_isSo_120, bX12_isSo_115, bX12_isSo_92]
    rw [z3i, n_cl (n := 3 * i) (by omega), n_cl (n := i) (by omega), hct i hi, n_succ i]
    refine ⟨fun q => absurd q (lt_go (n := m) rfl (by omega) hi), fun _ => ⟨zz, n_zin (by omega) (by decide), fun q => ?_, fun q => ?_⟩⟩
    · refine go ?_ _ _ _
      have sk : stk A.O m m i = true := by
        cases z : stk A.O m m i with
        | true => rfl
        | false => rw [z] at q; exact absurd q (by decide)
      unfold soE
      cases A.O.2 i with
      | inl j => rfl
      | inr v => dsimp only; rw [if_pos sk]
    · have sk : ¬ stk A.O m m i = true := fun z => by rw [z] at q; exact absurd rfl q
      cases e : A.O.2 i with
      | inl j =>
        rw [e] at h5
        rw [h5.1]
        exact ⟨fun _ => go (by unfold soE; rw [e]) _ _ _, fun z => absurd (show (-1 : Int32) < 0 by decide) z⟩
      | inr v =>
        obtain ⟨r, k, b⟩ := v
        rw [e] at h5 h7
        obtain ⟨c1, c2, c3⟩ := h5
        obtain ⟨c4, c5⟩ := h7
        have se : soE A m h c i = if A.T.2.1 8 r = nI h then (sol A.T h r k c == b) else true := by
          unfold soE; rw [e]; dsimp only; rw [if_neg sk]
        rw [c1]
        refine ⟨fun z => ?_, fun _ => ?_⟩
        · have z : nI r < nI 0 := z
          rw [n_lt (by omega) (by omega)] at z
          omega
        rw [show nI (3 * i) + 1 = nI (3 * i + 1) from n_succ _, show nI (3 * i) + 2 = nI (3 * i + 2) from n_add _ 2, n_cl (n := r) (by omega), n_cl (n := 3 * i + 1) (by omega), n_cl (n := 3 * i + 2) (by omega), (hT.rap c4).1, c2, c3]
        refine ⟨n_zin (by omega) (by decide), fun q8 => ?_, fun q8 => go (by rw [se, if_neg q8]) _ _ _⟩
        rw [if_pos q8] at se
        have eh : hnd A.T r = h := by unfold hnd; rw [q8, n_cl (by omega)]
        have vl := hb r c4 k c5
        rw [show (60 : Int32) + (6 : Int32) * nI r + nI k = nI (60 + 6 * r + k) by rw [show (60 : Int32) = nI 60 from rfl, show (6 : Int32) = nI 6 from rfl, n_mul, n_add, n_add], n6, n_cl (n := 60 + 6 * r + k) (by omega), n_cl (n := 6 * h + k) (by omega), vl, (hT.hand hh).2.2.2 k c5]
        obtain ⟨x, x1, x4, ex⟩ := wT.2.1 h hh k c5
        have ev : vlu A.T (su (sc0 A.T) 0 h (nI c)) r k = nI x + (if shc A.T h r k (nI c) < 50 then 0 else 1) := by
          unfold vlu shc
          rw [eh, ex]
          rfl
        rw [ev, ex]
        refine ⟨n_zin (by omega) (by decide), n_zin (by omega) (by decide), n_zin (by omega) (by decide), fun q9 => ⟨n_zin (by omega) (by decide), fun qb => ⟨fun z => absurd z (by decide), fun _ => ⟨Or.inl rfl, out ?_⟩⟩, fun qb => ⟨fun _ => go ?_ _ _ _, fun z => absurd rfl z⟩⟩, fun q9 => ⟨n_zin (by omega) (by decide), fun qb => ⟨fun _ => go ?_ _ _ _, fun z => absurd rfl z⟩, fun qb => ⟨fun z => absurd z (by decide), fun _ => ⟨Or.inl rfl, out ?_⟩⟩⟩⟩
        · have c50 : shc A.T h r k (nI c) < 50 := by
            by_cases w : shc A.T h r k (nI c) < 50
            · exact w
            · rw [if_neg w] at q9
              have := (beat_gt (x := x) (δ := 1) (by omega) (by omega)).mp q9
              omega
          rw [se]; unfold sol; rw [decide_eq_true c50]
          cases b with
          | true => rfl
          | false => exact absurd qb (by decide)
        · have c50 : shc A.T h r k (nI c) < 50 := by
            by_cases w : shc A.T h r k (nI c) < 50
            · exact w
            · rw [if_neg w] at q9
              have := (beat_gt (x := x) (δ := 1) (by omega) (by omega)).mp q9
              omega
          rw [se]; unfold sol; rw [decide_eq_true c50]
          cases b with
          | false => rfl
          | true => exact absurd rfl qb
        · have c50 : ¬ shc A.T h r k (nI c) < 50 := fun w => by
            rw [if_pos w] at q9
            exact q9 ((beat_gt (x := x) (δ := 0) (by omega) (by omega)).mpr rfl)
          rw [se]; unfold sol; rw [decide_eq_false c50]
          cases b with
          | true => rfl
          | false => exact absurd qb (by decide)
        · have c50 : ¬ shc A.T h r k (nI c) < 50 := fun w => by
            rw [if_pos w] at q9
            exact q9 ((beat_gt (x := x) (δ := 0) (by omega) (by omega)).mpr rfl)
          rw [se]; unfold sol; rw [decide_eq_false c50]
          cases b with
          | false => rfl
          | true => exact absurd rfl qb
  · rintro Z M ⟨z3, z4, z5, rfl, rfl, hs⟩ self
    rw [hs] at hK
    dsimp only [x_int, x_lng, x_ild, x_lld, x_ald, x_ist, x_ast, x_lst, x_inc, x_ii, x_id, x_i, x_ll, x_ld, x_l, x_cmp, x_i2l, x_l2i, x_if, x_ic, x_dup, x_pop, x_dup2, x_gI, x_gL, x_gR, x_g1, x_g0, x_gP, x_pI, x_pZ, x_pL, x_pP, x_al, x_as, x_all, x_asl, x_alr, x_len, x_cpy, x_m2, x_m1, x_m2l, x_m1l, x_call, x_cv, x_ri, x_rz, x_rl, x_rv, zg, zset, zbef, zlong, zcat, cond_true, cond_false, List.take, List.drop, rv1, rv2, rv3, rv4, rv5, rv6, rv7, sm0, sm1, bl0, bl1, bl2, bl3, bl4, bl5, bl6, bl7, bl8, List.nil_append, List.cons_append, List.length_cons, List.length_nil, Nat.reduceBEq, Nat.reduceAdd, Nat.reduceSub, ta, tb, tn0, tn1, tn2, tn3, tn4, tn5, tn6, tn7, tn8, tn9, tn10, tn11, tn12]
    refine p_knownBy (A := A) hO ?_
    rw [km]
    dsimp only [x_int, x_lng, x_ild, x_lld, x_ald, x_ist, x_ast, x_lst, x_inc, x_ii, x_id, x_i, x_ll, x_ld, x_l, x_cmp, x_i2l, x_l2i, x_if, x_ic, x_dup, x_pop, x_dup2, x_gI, x_gL, x_gR, x_g1, x_g0, x_gP, x_pI, x_pZ, x_pL, x_pP, x_al, x_as, x_all, x_asl, x_alr, x_len, x_cpy, x_m2, x_m1, x_m2l, x_m1l, x_call, x_cv, x_ri, x_rz, x_rl, x_rv, zg, zset, zbef, zlong, zcat, cond_true, cond_false, List.take, List.drop, rv1, rv2, rv3, rv4, rv5, rv6, rv7, sm0, sm1, bl0, bl1, bl2, bl3, bl4, bl5, bl6, bl7, bl8, List.nil_append, List.cons_append, List.length_cons, List.length_nil, Nat.reduceBEq, Nat.reduceAdd, Nat.reduceSub, ta, tb, tn0, tn1, tn2, tn3, tn4, tn5, tn6, tn7, tn8, tn9, tn10, tn11, tn12]
    exact ⟨fun _ => ⟨Or.inr rfl, hK⟩, fun q => absurd q (lt_out (n := m) rfl)⟩
/-- what stands of the overheard -/
def WO (A : aA) : Prop := A.O.1 ≤ 24 ∧ (A.lm = -1 ∨ ∃ m, m ≤ A.O.1 ∧ A.lm = nI m) ∧ ∀ i, i < A.O.1 → match A.O.2 i with
  | .inl j => j < i
  | .inr (r, k, _) => r < A.T.1 2 ∧ k < 6
theorem WO.k {A : aA} (h : WO A) : kwn A = nI (kwN A) ∧ kwN A ≤ A.O.1 := by
  obtain ⟨h2, h4, -⟩ := h
  unfold kwN kwn
  rcases h4 with e | ⟨m, hm, e⟩
  · rw [e, if_neg (by decide), n_cl (by omega)]
    exact ⟨rfl, Nat.le_refl _⟩
  · rw [e, if_pos (by rw [show (0 : Int32) = nI 0 from rfl, n_le (by omega) (by omega)]; omega), n_cl (by omega)]
    exact ⟨rfl, hm⟩
theorem r_colds {K : zQ} {I : zI} {L : zJ} {P : zP} {A : aA} {h : Int32} (wT : WT A.T) (wD : WD A.T) (wO : WO A) (hR : RR A I L) (hK : ∀ (I' : zI) (L' : zJ), frR I I' → zeLr L L' → K [.inl (v_colds A h)] (I', L', P)) : mX12_colds K [refR, .inl h] (I, L, P) := by
  obtain ⟨km, k1⟩ := wO.k
  have k2 := wO.1
  unfold v_colds at hK
  show bX12_colds_0 K [some (.inr (.inr (12,0))), some (.inl h), none, none] [] (I, L, P)
  unfold bX12_colds_0
  obtain ⟨I1, e9, hR1, f1⟩ := r_thr P hR
  dsimp only [x_ald, x_int, x_pI, zg, Nat.reduceBEq, cond_true]
  rw [e9]
  have hT := hR1.1
  have hp := hR1.2.2.1
  have hO := hR1.2.2.2.2.2.2.2.1
  have h6 := hT.h6
  have w4 := hT.w4
  have r10 := hT.r10
  dsimp only [x_int, x_lng, x_ild, x_lld, x_ald, x_ist, x_ast, x_lst, x_inc, x_ii, x_id, x_i, x_ll, x_ld, x_l, x_cmp, x_i2l, x_l2i, x_if, x_ic, x_dup, x_pop, x_dup2, x_gI, x_gL, x_gR, x_g1, x_g0, x_gP, x_pI, x_pZ, x_pL, x_pP, x_al, x_as, x_all, x_asl, x_alr, x_len, x_cpy, x_m2, x_m1, x_m2l, x_m1l, x_call, x_cv, x_ri, x_rz, x_rl, x_rv, zg, zset, zbef, zlong, zcat, cond_true, cond_false, List.take, List.drop, rv1, rv2, rv3, rv4, rv5, rv6, rv7, sm0, sm1, bl0, bl1, bl2, bl3, bl4, bl5, bl6, bl7, bl8, List.nil_append, List.cons_append, List.length_cons, List.length_nil, Nat.reduceBEq, Nat.reduceAdd, Nat.reduceSub, ta, tb, tn0, tn1, tn2, tn3, tn4, tn5, tn6, tn7, tn8, tn9, tn10, tn11, tn12]
  refine p_isHandR hT (fun ok => ?_) (fun no => ⟨fun _ => by rw [if_neg no] at hK; exact hK I1 L f1 zeLr.rf, fun z => absurd rfl z⟩)
  rw [if_pos ok] at hK
  obtain ⟨y, rfl, hy⟩ := ok_of (by omega) ok
  rw [n_cl (n := y) (by omega)] at hK
  generalize em : kwN A = m at *
  dsimp only [x_int, x_lng, x_ild, x_lld, x_ald, x_ist, x_ast, x_lst, x_inc, x_ii, x_id, x_i, x_ll, x_ld, x_l, x_cmp, x_i2l, x_l2i, x_if, x_ic, x_dup, x_pop, x_dup2, x_gI, x_gL, x_gR, x_g1, x_g0, x_gP, x_pI, x_pZ, x_pL, x_pP, x_al, x_as, x_all, x_asl, x_alr, x_len, x_cpy, x_m2, x_m1, x_m2l, x_m1l, x_call, x_cv, x_ri, x_rz, x_rl, x_rv, zg, zset, zbef, zlong, zcat, cond_true, cond_false, List.take, List.drop, rv1, rv2, rv3, rv4, rv5, rv6, rv7, sm0, sm1, bl0, bl1, bl2, bl3, bl4, bl5, bl6, bl7, bl8, List.nil_append, List.cons_append, List.length_cons, List.length_nil, Nat.reduceBEq, Nat.reduceAdd, Nat.reduceSub, ta, tb, tn0, tn1, tn2, tn3, tn4, tn5, tn6, tn7, tn8, tn9, tn10, tn11, tn12]
  refine ⟨fun z => absurd z (by decide), fun _ => ?_⟩
  have z90 : ∀ {I' : zI}, fr1 90 I1 I' → frZ I1 I' := fun q a i c z _ => q a i c (fun e => z ⟨e.2, Or.inr (Or.inr (Or.inr (Or.inl e.1)))⟩)
  refine zinv m (fun i Z M => ∃ I' : zI, Z = [some refR, some (.inl (nI y)), some (.inl (nI i)), none] ∧ M = (I', L, P) ∧ fr1 90 I1 I' ∧ ∀ j, j < i → I' 90 0 j = 1) ?_ ?_ ⟨I1, rfl, rfl, fun _ _ _ _ => rfl, fun j hj => by omega⟩
  · rintro i Z M hi ⟨I', rfl, rfl, q1, q2⟩ self hself
    dsimp only [x_int, x_lng, x_ild, x_lld, x_ald, x_ist, x_ast, x_lst, x_inc, x_ii, x_id, x_i, x_ll, x_ld, x_l, x_cmp, x_i2l, x_l2i, x_if, x_ic, x_dup, x_pop, x_dup2, x_gI, x_gL, x_gR, x_g1, x_g0, x_gP, x_pI, x_pZ, x_pL, x_pP, x_al, x_as, x_all, x_asl, x_alr, x_len, x_cpy, x_m2, x_m1, x_m2l, x_m1l, x_call, x_cv, x_ri, x_rz, x_rl, x_rv, zg, zset, zbef, zlong, zcat, cond_true, cond_false, List.take, List.drop, rv1, rv2, rv3, rv4, rv5, rv6, rv7, sm0, sm1, bl0, bl1, bl2, bl3, bl4, bl5, bl6, bl7, bl8, List.nil_append, List.cons_append, List.length_cons, List.length_nil, Nat.reduceBEq, Nat.reduceAdd, Nat.reduceSub, ta, tb, tn0, tn1, tn2, tn3, tn4, tn5, tn6, tn7, tn8, tn9, tn10, tn11, tn12]
    refine p_knownBy (A := A) ((z90 q1).o hO) ?_
    rw [km]
    dsimp only [x_int, x_lng, x_ild, x_lld, x_ald, x_ist, x_ast, x_lst, x_inc, x_ii, x_id, x_i, x_ll, x_ld, x_l, x_cmp, x_i2l, x_l2i, x_if, x_ic, x_dup, x_pop, x_dup2, x_gI, x_gL, x_gR, x_g1, x_g0, x_gP, x_pI, x_pZ, x_pL, x_pP, x_al, x_as, x_all, x_asl, x_alr, x_len, x_cpy, x_m2, x_m1, x_m2l, x_m1l, x_call, x_cv, x_ri, x_rz, x_rl, x_rv, zg, zset, zbef, zlong, zcat, cond_true, cond_false, List.take, List.drop, rv1, rv2, rv3, rv4, rv5, rv6, rv7, sm0, sm1, bl0, bl1, bl2, bl3, bl4, bl5, bl6, bl7, bl8, List.nil_append, List.cons_append, List.length_cons, List.length_nil, Nat.reduceBEq, Nat.reduceAdd, Nat.reduceSub, ta, tb, tn0, tn1, tn2, tn3, tn4, tn5, tn6, tn7, tn8, tn9, tn10, tn11, tn12, zk_90, zl_90]
    rw [n_cl (n := i) (by omega), n_succ i, nar1]
    obtain ⟨J1, g1, x1, j1⟩ := zsI_ex I' L P 90 0 i 1
    rw [g1]
    refine ⟨fun q => absurd q (lt_go (n := m) rfl (by omega) hi), fun _ => ⟨n_zin (by omega) (by decide), hself _ _ ⟨J1, rfl, rfl, fun a b c q => (j1 a b c (fun e => q ⟨e.1, e.2.1⟩)).trans (q1 a b c q), fun j hj => ?_⟩⟩⟩
    by_cases e : j = i
    · subst e; exact x1
    · rw [j1 _ _ _ (by omega)]; exact q2 j (by omega)
  rintro Z M ⟨I2, rfl, rfl, q1, q2⟩ self
  dsimp only [x_int, x_lng, x_ild, x_lld, x_ald, x_ist, x_ast, x_lst, x_inc, x_ii, x_id, x_i, x_ll, x_ld, x_l, x_cmp, x_i2l, x_l2i, x_if, x_ic, x_dup, x_pop, x_dup2, x_gI, x_gL, x_gR, x_g1, x_g0, x_gP, x_pI, x_pZ, x_pL, x_pP, x_al, x_as, x_all, x_asl, x_alr, x_len, x_cpy, x_m2, x_m1, x_m2l, x_m1l, x_call, x_cv, x_ri, x_rz, x_rl, x_rv, zg, zset, zbef, zlong, zcat, cond_true, cond_false, List.take, List.drop, rv1, rv2, rv3, rv4, rv5, rv6, rv7, sm0, sm1, bl0, bl1, bl2, bl3, bl4, bl5, bl6, bl7, bl8, List.nil_append, List.cons_append, List.length_cons, List.length_nil, Nat.reduceBEq, Nat.reduceAdd, Nat.reduceSub, ta, tb, tn0, tn1, tn2, tn3, tn4, tn5, tn6, tn7, tn8, tn9, tn10, tn11, tn12]
  refine p_knownBy (A := A) ((z90 q1).o hO) ?_
  rw [km]
  dsimp only [x_int, x_lng, x_ild, x_lld, x_ald, x_ist, x_ast, x_lst, x_inc, x_ii, x_id, x_i, x_ll, x_ld, x_l, x_cmp, x_i2l, x_l2i, x_if, x_ic, x_dup, x_pop, x_dup2, x_gI, x_gL, x_gR, x_g1, x_g0, x_gP, x_pI, x_pZ, x_pL, x_pP, x_al, x_as, x_all, x_asl, x_alr, x_len, x_cpy, x_m2, x_m1, x_m2l, x_m1l, x_call, x_cv, x_ri, x_rz, x_rl, x_rv, zg, zset, zbef, zlong, zcat, cond_true, cond_false, List.take, List.drop, rv1, rv2, rv3, rv4, rv5, rv6, rv7, sm0, sm1, bl0, bl1, bl2, bl3, bl4, bl5, bl6, bl7, bl8, List.nil_append, List.cons_append, List.length_cons, List.length_nil, Nat.reduceBEq, Nat.reduceAdd, Nat.reduceSub, ta, tb, tn0, tn1, tn2, tn3, tn4, tn5, tn6, tn7, tn8, tn9, tn10, tn11, tn12]
  refine ⟨fun _ => p_knownBy (A := A) ((z90 q1).o hO) ?_, fun q => absurd q (lt_out (n := m) rfl)⟩
  rw [km]
  dsimp only [x_int, x_lng, x_ild, x_lld, x_ald, x_ist, x_ast, x_lst, x_inc, x_ii, x_id, x_i, x_ll, x_ld, x_l, x_cmp, x_i2l, x_l2i, x_if, x_ic, x_dup, x_pop, x_dup2, x_gI, x_gL, x_gR, x_g1, x_g0, x_gP, x_pI, x_pZ, x_pL, x_pP, x_al, x_as, x_all, x_asl, x_alr, x_len, x_cpy, x_m2, x_m1, x_m2l, x_m1l, x_call, x_cv, x_ri, x_rz, x_rl, x_rv, zg, zset, zbef, zlong, zcat, cond_true, cond_false, List.take, List.drop, rv1, rv2, rv3, rv4, rv5, rv6, rv7, sm0, sm1, bl0, bl1, bl2, bl3, bl4, bl5, bl6, bl7, bl8, List.nil_append, List.cons_append, List.length_cons, List.length_nil, Nat.reduceBEq, Nat.reduceAdd, Nat.reduceSub, ta, tb, tn0, tn1, tn2, tn3, tn4, tn5, tn6, tn7, tn8, tn9, tn10, tn11, tn12]
  rw [dv_0]
  refine zinv m (fun k Z M => ∃ I' : zI, Z = [some refR, some (.inl (nI y)), some (.inl (dv m k)), none] ∧ M = (I', L, P) ∧ fr1 90 I1 I' ∧ ∀ i, i < m → I' 90 0 i = bI (!stk A.O m k i)) ?_ ?_ ⟨I2, rfl, rfl, q1, fun i hi => q2 i hi⟩
  · rintro k Z M hk ⟨I', rfl, rfl, r1, r2⟩ self2 hself
    have hO' := (z90 r1).o hO
    have ei : dv m k = nI (m - 1 - k) := if_pos hk
    have z : zin (nI (m - 1 - k)) 24 := n_zin (by omega) (by decide)
    have h5 := hO'.2.2 (m - 1 - k) (by omega)
    have h7 := wO.2.2 (m - 1 - k) (by omega)
    have z3i : (3 : Int32) * nI (m - 1 - k) = nI (3 * (m - 1 - k)) := by rw [show (3 : Int32) = nI 3 from rfl, n_mul]
    dsimp only [x_int, x_lng, x_ild, x_lld, x_ald, x_ist, x_ast, x_lst, x_inc, x_ii, x_id, x_i, x_ll, x_ld, x_l, x_cmp, x_i2l, x_l2i, x_if, x_ic, x_dup, x_pop, x_dup2, x_gI, x_gL, x_gR, x_g1, x_g0, x_gP, x_pI, x_pZ, x_pL, x_pP, x_al, x_as, x_all, x_asl, x_alr, x_len, x_cpy, x_m2, x_m1, x_m2l, x_m1l, x_call, x_cv, x_ri, x_rz, x_rl, x_rv, zg, zset, zbef, zlong, zcat, cond_true, cond_false, List.take, List.drop, rv1, rv2, rv3, rv4, rv5, rv6, rv7, sm0, sm1, bl0, bl1, bl2, bl3, bl4, bl5, bl6, bl7, bl8, List.nil_append, List.cons_append, List.length_cons, List.length_nil, Nat.reduceBEq, Nat.reduceAdd, Nat.reduceSub, ta, tb, tn0, tn1, tn2, tn3, tn4, tn5, tn6, tn7, tn8, tn9, tn10, tn11, tn12, zk_89, zl_89, zk_90, zl_90, bX12_colds_85]
    rw [dv_s hk, ei, z3i, show nI (3 * (m - 1 - k)) + 1 = nI (3 * (m - 1 - k) + 1) from n_succ _, n_cl (n := m - 1 - k) (by omega), n_cl (n := 3 * (m - 1 - k)) (by omega), n_cl (n := 3 * (m - 1 - k) + 1) (by omega), nar0, r2 (m - 1 - k) (by omega)]
    refine ⟨fun q => ?_, fun _ => ⟨z, fun c => ?_, fun c => ⟨n_zin (by omega) (by decide), fun d => ?_, fun d => ⟨n_zin (by omega) (by decide), ?_⟩⟩⟩⟩
    · have q : nI (m - 1 - k) < nI 0 := q
      rw [n_lt (by omega) (by omega)] at q
      omega
    · have yd : stk A.O m k (m - 1 - k) = true := by
        cases w : stk A.O m k (m - 1 - k) with
        | true => rfl
        | false => rw [w] at c; exact absurd c (by decide)
      refine hself _ _ ⟨I', rfl, rfl, r1, ?_⟩
      cases e : A.O.2 (m - 1 - k) with
      | inl j => rw [stk_l e, if_pos yd]; exact r2
      | inr v => rw [stk_r e]; exact r2
    · cases e : A.O.2 (m - 1 - k) with
      | inl j =>
        rw [e] at h5
        rw [h5.1] at d
        exact absurd d (by decide)
      | inr v => exact hself _ _ ⟨I', rfl, rfl, r1, by rw [stk_r e]; exact r2⟩
    · have nd : stk A.O m k (m - 1 - k) = false := by
        cases w : stk A.O m k (m - 1 - k) with
        | false => rfl
        | true => rw [w] at c; exact absurd rfl c
      cases e : A.O.2 (m - 1 - k) with
      | inr v =>
        obtain ⟨r, kk, b⟩ := v
        rw [e] at h5 h7
        rw [h5.1] at d
        exact absurd (show nI 0 ≤ nI r by rw [n_le (by omega) (by omega)]; omega) d
      | inl j =>
        rw [e] at h5 h7
        have h7 : j < m - 1 - k := h7
        have s := stk_l e
        rw [if_neg (by rw [nd]; decide)] at s
        rw [h5.2, n_cl (n := j) (by omega)]
        obtain ⟨J1, g1, x1, j1⟩ := zsI_ex I' L P 90 0 j 0
        rw [g1]
        refine ⟨n_zin (by omega) (by decide), hself _ _ ⟨J1, rfl, rfl, fun a b c q => (j1 a b c (fun e => q ⟨e.1, e.2.1⟩)).trans (r1 a b c q), fun i hi => ?_⟩⟩
        rw [s]
        by_cases w : i = j
        · subst w; rw [x1]; simp [bI]
        · rw [j1 _ _ _ (fun e => w e.2.2), r2 i hi]
          show _ = bI (!(i == j || stk A.O m k i))
          rw [show (i == j) = false by simp [w], Bool.false_or]
  rintro Z M ⟨I3, rfl, rfl, r1, r2⟩ self2
  have e : dv m m = -1 := if_neg (by omega)
  rw [e]
  dsimp only [x_int, x_lng, x_ild, x_lld, x_ald, x_ist, x_ast, x_lst, x_inc, x_ii, x_id, x_i, x_ll, x_ld, x_l, x_cmp, x_i2l, x_l2i, x_if, x_ic, x_dup, x_pop, x_dup2, x_gI, x_gL, x_gR, x_g1, x_g0, x_gP, x_pI, x_pZ, x_pL, x_pP, x_al, x_as, x_all, x_asl, x_alr, x_len, x_cpy, x_m2, x_m1, x_m2l, x_m1l, x_call, x_cv, x_ri, x_rz, x_rl, x_rv, zg, zset, zbef, zlong, zcat, cond_true, cond_false, List.take, List.drop, rv1, rv2, rv3, rv4, rv5, rv6, rv7, sm0, sm1, bl0, bl1, bl2, bl3, bl4, bl5, bl6, bl7, bl8, List.nil_append, List.cons_append, List.length_cons, List.length_nil, Nat.reduceBEq, Nat.reduceAdd, Nat.reduceSub, ta, tb, tn0, tn1, tn2, tn3, tn4, tn5, tn6, tn7, tn8, tn9, tn10, tn11, tn12]
  refine ⟨fun _ => ?_, fun q => absurd (show (-1 : Int32) < 0 by decide) q⟩
  have hOc : ∀ i, i < A.O.1 → match A.O.2 i with
    | .inl _ => True
    | .inr (r, k, _) => r < A.T.1 2 ∧ k < 6 := fun i hi => by
    have := wO.2.2 i hi
    cases w : A.O.2 i with
    | inl j => trivial
    | inr v => rw [w] at this; exact this
  refine zinv 10 (fun c Z M => ∃ (I' : zI) (L' : zJ), Z = [some refR, some (.inl (nI y)), some (.inl (nI (bsB (fun c => soA A m y c m) c))), some (.inl (nI c))] ∧ M = (I', L', P) ∧ frZ I1 I' ∧ zeLr L L' ∧ ∀ i, i < m → I' 90 0 i = bI (!stk A.O m m i)) ?_ ?_ ⟨I3, L, rfl, rfl, z90 r1, zeLr.rf, r2⟩
  · rintro c Z M hc ⟨I', L', rfl, rfl, s1, s2, s3⟩ self3 hself
    dsimp only [x_int, x_lng, x_ild, x_lld, x_ald, x_ist, x_ast, x_lst, x_inc, x_ii, x_id, x_i, x_ll, x_ld, x_l, x_cmp, x_i2l, x_l2i, x_if, x_ic, x_dup, x_pop, x_dup2, x_gI, x_gL, x_gR, x_g1, x_g0, x_gP, x_pI, x_pZ, x_pL, x_pP, x_al, x_as, x_all, x_asl, x_alr, x_len, x_cpy, x_m2, x_m1, x_m2l, x_m1l, x_call, x_cv, x_ri, x_rz, x_rl, x_rv, zg, zset, zbef, zlong, zcat, cond_true, cond_false, List.take, List.drop, rv1, rv2, rv3, rv4, rv5, rv6, rv7, sm0, sm1, bl0, bl1, bl2, bl3, bl4, bl5, bl6, bl7, bl8, List.nil_append, List.cons_append, List.length_cons, List.length_nil, Nat.reduceBEq, Nat.reduceAdd, Nat.reduceSub, ta, tb, tn0, tn1, tn2, tn3, tn4, tn5, tn6, tn7, tn8, tn9, tn10, tn11, tn12]
    refine ⟨fun q => absurd q (lt_go (n := 10) rfl (by omega) hc), fun _ => p_atFirst (b := 1) (by decide) (fun I4 o4 a4 => ?_)⟩
    have s4 : frZ I1 I4 := fun a i q z1 z2 => (o4 a i q (fun e => z1 ⟨e.1, Or.inl (by have := e.2; unfold afK at this; unfold upH; omega)⟩)).trans (s1 a i q z1 z2)
    dsimp only [x_int, x_lng, x_ild, x_lld, x_ald, x_ist, x_ast, x_lst, x_inc, x_ii, x_id, x_i, x_ll, x_ld, x_l, x_cmp, x_i2l, x_l2i, x_if, x_ic, x_dup, x_pop, x_dup2, x_gI, x_gL, x_gR, x_g1, x_g0, x_gP, x_pI, x_pZ, x_pL, x_pP, x_al, x_as, x_all, x_asl, x_alr, x_len, x_cpy, x_m2, x_m1, x_m2l, x_m1l, x_call, x_cv, x_ri, x_rz, x_rl, x_rv, zg, zset, zbef, zlong, zcat, cond_true, cond_false, List.take, List.drop, rv1, rv2, rv3, rv4, rv5, rv6, rv7, sm0, sm1, bl0, bl1, bl2, bl3, bl4, bl5, bl6, bl7, bl8, List.nil_append, List.cons_append, List.length_cons, List.length_nil, Nat.reduceBEq, Nat.reduceAdd, Nat.reduceSub, ta, tb, tn0, tn1, tn2, tn3, tn4, tn5, tn6, tn7, tn8, tn9, tn10, tn11, tn12]
    refine p_plain0 ?_
    obtain ⟨I5, e5, hp5, f5⟩ := plnM_eq I4 L' P
    rw [e5]
    dsimp only [x_int, x_lng, x_ild, x_lld, x_ald, x_ist, x_ast, x_lst, x_inc, x_ii, x_id, x_i, x_ll, x_ld, x_l, x_cmp, x_i2l, x_l2i, x_if, x_ic, x_dup, x_pop, x_dup2, x_gI, x_gL, x_gR, x_g1, x_g0, x_gP, x_pI, x_pZ, x_pL, x_pP, x_al, x_as, x_all, x_asl, x_alr, x_len, x_cpy, x_m2, x_m1, x_m2l, x_m1l, x_call, x_cv, x_ri, x_rz, x_rl, x_rv, zg, zset, zbef, zlong, zcat, cond_true, cond_false, List.take, List.drop, rv1, rv2, rv3, rv4, rv5, rv6, rv7, sm0, sm1, bl0, bl1, bl2, bl3, bl4, bl5, bl6, bl7, bl8, List.nil_append, List.cons_append, List.length_cons, List.length_nil, Nat.reduceBEq, Nat.reduceAdd, Nat.reduceSub, ta, tb, tn0, tn1, tn2, tn3, tn4, tn5, tn6, tn7, tn8, tn9, tn10, tn11, tn12]
    obtain ⟨I6, e6, w6, f6⟩ := zsI_ex I5 L' P 12 0 66 (nI y)
    rw [e6]
    obtain ⟨I7, e7, w7, f7⟩ := zsI_ex I6 L' P 12 0 67 (nI c)
    rw [e7]
    have o7 : ∀ a i q, ¬ (a = 12 ∧ i = 0 ∧ (q = 63 ∨ q = 64 ∨ q = 65 ∨ q = 66 ∨ q = 67)) → I7 a i q = I4 a i q := fun a i q z => by
      rw [f7 a i q (by omega), f6 a i q (by omega), f5 a i q z]
    have s7 : frZ I1 I7 := fun a i q z1 z2 => (o7 a i q z2).trans (s4 a i q z1 z2)
    have hT7 := s7.rt hT
    have v90 : ∀ i, i < m → I7 90 0 i = bI (!stk A.O m m i) := fun i hi => by
      rw [o7 90 0 i (by omega), o4 90 0 i (fun e => by have := e.2; unfold afK at this; omega)]; exact s3 i hi
    have dr7 : I7 12 0 63 = 0 := by rw [f7 _ _ _ (by decide), f6 _ _ _ (by decide)]; exact hp5.1
    have hw7 : I7 12 0 64 = -1 := by rw [f7 _ _ _ (by decide), f6 _ _ _ (by decide)]; exact hp5.2.1
    have co7 : I7 12 0 66 = nI y := by rw [f7 _ _ _ (by decide)]; exact w6
    obtain ⟨t1, t2, t3, t4, t5⟩ := a4
    have hTi := s1.rt hT
    have hS7 : RS I7 1 A.T (su (sc0 A.T) 0 y (nI c)) := by
      refine ⟨fun x hx => ⟨?_, ?_, ?_⟩, fun x hx => ⟨?_, ?_⟩, fun x hx => ?_, ?_, ?_, ?_⟩
      · unfold coldR
        rw [hw7, if_neg (by decide), co7, w7]
        by_cases q : x = y
        · subst q; rw [if_pos rfl, su_h ⟨rfl, rfl⟩]
        · rw [if_neg (by rw [n_eq (by omega) (by omega)]; exact q), su_r (by omega), o7 76 0 _ (by omega), (t1 x (by omega)).1]
          exact (hTi.hand hx).2.1
      · rw [o7 77 0 _ (by omega), (t1 x (by omega)).2, su_r (by omega)]; rfl
      · unfold agedR
        rw [hw7, if_neg (by decide), su_r (by omega)]
        exact (hT7.hand hx).2.2.1
      · unfold hardR
        rw [hw7, if_neg (by decide), su_r (by omega)]
        exact (hT7.wood hx).2.2.1
      · rw [o7 78 0 _ (by omega), t2 x (by omega), su_r (by omega)]
        exact (hTi.wood hx).2.2.2
      · obtain ⟨y1, y2, y3, y4, y5, y6⟩ := t3 x (by omega)
        have v5 : su (sc0 A.T) 0 y (nI c) 5 x = 0 := su_r (by omega)
        rw [o7 79 0 _ (by omega), y1, o7 80 0 _ (by omega), y2, o7 81 0 _ (by omega), y3, o7 82 0 _ (by omega), y4, o7 83 0 _ (by omega), y5, v5]
        refine ⟨?_, ?_, rfl, ?_, ?_, fun q => absurd rfl q, fun k hk => ?_⟩
        · rw [su_r (by omega)]; exact (hTi.rap hx).2.1
        · rw [su_r (by omega)]; exact (hTi.rap hx).2.2
        · rw [su_r (by omega)]; rfl
        · rw [su_r (by omega)]; rfl
        · rw [o7 85 0 _ (by omega), show 60 * 1 + 6 * x + k = 60 * 1 + (6 * x + k) by omega, t4 _ (by omega), su_r (by omega)]; rfl
      · rw [o7 86 0 _ (by omega), t5, su_r (by omega)]; rfl
      · unfold likeR
        rw [hw7, if_neg (by decide), su_r (by omega)]
        exact hT7.2.2.2.2.2.1.1
      · rw [hw7, if_neg (by decide), su_r (by omega)]; rfl
    have wS7 : WS A.T (su (sc0 A.T) 0 y (nI c)) := wD.2.1.of3 (fun i => su_r (by omega))
    have wQ7 : WQ A.T (su (sc0 A.T) 0 y (nI c)) := fun r hr => ⟨Or.inl (su_r (by omega)), Or.inl (su_r (by omega))⟩
    have wL7 : 0 ≤ su (sc0 A.T) 0 y (nI c) 13 0 ∧ su (sc0 A.T) 0 y (nI c) 13 0 ≤ 30 := by rw [su_r (by omega)]; exact wD.2.2
    refine p_goMany (n := 100) (dr := false) (by decide) hT7 hS7 wT wS7 wQ7 wL7 (Or.inl ⟨dr7, rfl⟩) (fun z => by cases z) (fun I8 L8 b8 l8 d8 _ hS8 => ?_)
    have s8 : frZ I1 I8 := fun a i q z1 z2 => (frB_R b8 a i q z1).trans (s7 a i q z1 z2)
    have l9 : zeLr L L8 := fun a b q z1 z2 => by
      by_cases w : a = 12 ∧ b = 0 ∧ q = 61
      · rw [w.1, w.2.1, w.2.2, d8 rfl]; exact s2 12 0 _ (by decide) (by decide)
      · exact (l8 a b q z1 z2 w).trans (s2 a b q z1 z2)
    have v98 : ∀ i, i < m → I8 90 0 i = bI (!stk A.O m m i) := fun i hi => by
      rw [b8 90 0 i (fun e => by have := e.2; unfold inBuf at this; omega) (by omega)]; exact v90 i hi
    have be : ∀ r, r < A.T.1 2 → ∀ k, k < 6 → I8 85 0 (60 + 6 * r + k) = vlu A.T (su (sc0 A.T) 0 y (nI c)) r k := fun r hr k hk => by
      have := (hS8.2.2.1 r hr).2.2.2.2.2.2 k hk
      rw [show 60 * 1 + 6 * r + k = 60 + 6 * r + k by omega] at this
      rw [this]
      exact sm_end wT wD h6 w4 (fun i => su_r (by omega)) (fun i => su_r (by omega)) (su_r (by omega)) (su_r (by omega)) (fun i => su_r (by omega)) (fun i => su_r (by omega)) hr hk
    dsimp only [x_int, x_lng, x_ild, x_lld, x_ald, x_ist, x_ast, x_lst, x_inc, x_ii, x_id, x_i, x_ll, x_ld, x_l, x_cmp, x_i2l, x_l2i, x_if, x_ic, x_dup, x_pop, x_dup2, x_gI, x_gL, x_gR, x_g1, x_g0, x_gP, x_pI, x_pZ, x_pL, x_pP, x_al, x_as, x_all, x_asl, x_alr, x_len, x_cpy, x_m2, x_m1, x_m2l, x_m1l, x_call, x_cv, x_ri, x_rz, x_rl, x_rv, zg, zset, zbef, zlong, zcat, cond_true, cond_false, List.take, List.drop, rv1, rv2, rv3, rv4, rv5, rv6, rv7, sm0, sm1, bl0, bl1, bl2, bl3, bl4, bl5, bl6, bl7, bl8, List.nil_append, List.cons_append, List.length_cons, List.length_nil, Nat.reduceBEq, Nat.reduceAdd, Nat.reduceSub, ta, tb, tn0, tn1, tn2, tn3, tn4, tn5, tn6, tn7, tn8, tn9, tn10, tn11, tn12]
    refine p_isSo (A := A) (m := m) (h := y) (c := c) wT wD (s8.rt hT) (s8.o hO) hOc km k1 k2 hy v98 be ?_
    dsimp only [x_int, x_lng, x_ild, x_lld, x_ald, x_ist, x_ast, x_lst, x_inc, x_ii, x_id, x_i, x_ll, x_ld, x_l, x_cmp, x_i2l, x_l2i, x_if, x_ic, x_dup, x_pop, x_dup2, x_gI, x_gL, x_gR, x_g1, x_g0, x_gP, x_pI, x_pZ, x_pL, x_pP, x_al, x_as, x_all, x_asl, x_alr, x_len, x_cpy, x_m2, x_m1, x_m2l, x_m1l, x_call, x_cv, x_ri, x_rz, x_rl, x_rv, zg, zset, zbef, zlong, zcat, cond_true, cond_false, List.take, List.drop, rv1, rv2, rv3, rv4, rv5, rv6, rv7, sm0, sm1, bl0, bl1, bl2, bl3, bl4, bl5, bl6, bl7, bl8, List.nil_append, List.cons_append, List.length_cons, List.length_nil, Nat.reduceBEq, Nat.reduceAdd, Nat.reduceSub, ta, tb, tn0, tn1, tn2, tn3, tn4, tn5, tn6, tn7, tn8, tn9, tn10, tn11, tn12, bX12_colds_142]
    rw [n_succ c]
    have st : bsB (fun c => soA A m y c m) (c + 1) = bsB (fun c => soA A m y c m) c + (if soA A m y c m = true then 2 ^ c else 0) := rfl
    by_cases q : soA A m y c m = true
    · rw [q]
      refine ⟨fun z => absurd z (by decide), fun _ => ?_⟩
      rw [bsB_or _ (by omega)]
      refine hself _ _ ⟨I8, L8, ?_, rfl, s8, l9, v98⟩
      rw [st, if_pos q]
    · have q' : soA A m y c m = false := by cases z : soA A m y c m with
        | false => rfl
        | true => exact absurd z q
      rw [q']
      refine ⟨fun _ => ?_, fun z => absurd rfl z⟩
      rw [Int32.or_zero]
      refine hself _ _ ⟨I8, L8, ?_, rfl, s8, l9, v98⟩
      rw [st, if_neg q]; rfl
  rintro Z M ⟨I4, L4, rfl, rfl, s1, s2, s3⟩ self3
  dsimp only [x_int, x_lng, x_ild, x_lld, x_ald, x_ist, x_ast, x_lst, x_inc, x_ii, x_id, x_i, x_ll, x_ld, x_l, x_cmp, x_i2l, x_l2i, x_if, x_ic, x_dup, x_pop, x_dup2, x_gI, x_gL, x_gR, x_g1, x_g0, x_gP, x_pI, x_pZ, x_pL, x_pP, x_al, x_as, x_all, x_asl, x_alr, x_len, x_cpy, x_m2, x_m1, x_m2l, x_m1l, x_call, x_cv, x_ri, x_rz, x_rl, x_rv, zg, zset, zbef, zlong, zcat, cond_true, cond_false, List.take, List.drop, rv1, rv2, rv3, rv4, rv5, rv6, rv7, sm0, sm1, bl0, bl1, bl2, bl3, bl4, bl5, bl6, bl7, bl8, List.nil_append, List.cons_append, List.length_cons, List.length_nil, Nat.reduceBEq, Nat.reduceAdd, Nat.reduceSub, ta, tb, tn0, tn1, tn2, tn3, tn4, tn5, tn6, tn7, tn8, tn9, tn10, tn11, tn12]
  refine ⟨fun _ => p_plain0 ?_, fun q => absurd q (lt_out (n := 10) rfl)⟩
  obtain ⟨I5, e5, hp5, f5⟩ := plnM_eq I4 L4 P
  rw [e5]
  dsimp only [x_int, x_lng, x_ild, x_lld, x_ald, x_ist, x_ast, x_lst, x_inc, x_ii, x_id, x_i, x_ll, x_ld, x_l, x_cmp, x_i2l, x_l2i, x_if, x_ic, x_dup, x_pop, x_dup2, x_gI, x_gL, x_gR, x_g1, x_g0, x_gP, x_pI, x_pZ, x_pL, x_pP, x_al, x_as, x_all, x_asl, x_alr, x_len, x_cpy, x_m2, x_m1, x_m2l, x_m1l, x_call, x_cv, x_ri, x_rz, x_rl, x_rv, zg, zset, zbef, zlong, zcat, cond_true, cond_false, List.take, List.drop, rv1, rv2, rv3, rv4, rv5, rv6, rv7, sm0, sm1, bl0, bl1, bl2, bl3, bl4, bl5, bl6, bl7, bl8, List.nil_append, List.cons_append, List.length_cons, List.length_nil, Nat.reduceBEq, Nat.reduceAdd, Nat.reduceSub, ta, tb, tn0, tn1, tn2, tn3, tn4, tn5, tn6, tn7, tn8, tn9, tn10, tn11, tn12]
  exact hK I5 L4 (f1.tr (pln_frR hp hp5 s1 f5)) s2
