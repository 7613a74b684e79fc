theorem ckA_64 {i : Nat} : ckA 64 (.inl i) = .inr (2, i) := rfl
theorem p_readOperand {K : zQ} {I : zI} {L : zJ} {P : zP} {B : Nat → Nat} {n m d w c0 i cnt : Nat} {Q : aQ} {cs : List Int32} {ws : List Nat} {mn : Bool} (hy : rdY B n m d w P) (hm : TKm B n m I) (hX : XC B n m d w Q (i, cs, ws, true, mn, cnt) I) (hI : XI c0 (i, cs, ws, true, mn, cnt)) (hk : ¬ (kd B n i = 11 ∧ mn = true)) (hk2 : ¬ kd B n i = 22) (hK : ∀ I' : zI, frD d I I' → I' 9 d 12 = I 9 d 12 → TKm B n m I' → xout B n m d w Q (xst B n (i, cs, ws, true, mn, cnt)) I' → K [] (I', L, P)) : mX5_readOperand K [rdR] (I, L, P) := by
  obtain ⟨⟨hE, n7, hP, d2⟩, hL, hw⟩ := hy
  have l72 := hI.l72
  obtain ⟨-, -, i3, i4, i5, i6⟩ := hI
  dsimp only at l72 i3 i4 i5 i6
  have xl := hX.law hw
  obtain ⟨x1, x2, x3, x4, x5, x6, x7⟩ := hX
  dsimp only at x1 x2 x3 x4 x5 x6 x7 xl
  have ol := opn_le ws
  have kl := kd_le B n i
  have xe : xst B n (i, cs, ws, true, mn, cnt) = (if 12 ≤ kd B n i ∧ kd B n i ≤ 18 then (if cnt = 64 then .inl (2, i) else .inr (.inr (i + 1, cs ++ [-(nI (kd B n i))], ws, false, mn, cnt + 1))) else if kd B n i = 20 then (if vl B n i ≤ nI 9999 then (if cnt = 64 then .inl (2, i) else .inr (.inr (i + 1, cs ++ [vl B n i], ws, false, mn, cnt + 1))) else .inl (2, i)) else .inl (1, i)) := by
    unfold xst
    dsimp only
    rw [if_pos rfl, if_neg hk, if_neg hk2]
  -- from the count on
  have e66 : ∀ (I1 : zI) (st : aR) (nm : Bool) (v : Int32), frRd I I1 → stC B n m st I1 → (∀ j, st = .inl j → st = .inl i ∧ I1 = I ∧ v = (if nm = true then -(nI (kd B n i)) else vl B n i) ∧ ((12 ≤ kd B n i ∧ kd B n i ≤ 18) ∨ kd B n i = 20) ∧ xst B n (i, cs, ws, true, mn, cnt) = if cnt = 64 then .inl (2, i) else .inr (.inr (i + 1, cs ++ [v], ws, false, mn, cnt + 1))) → (∀ x, st = .inr x → xst B n (i, cs, ws, true, mn, cnt) = .inl x) → bX5_readOperand_66 K [some rdR, some (.inl (nI (kd B n i))), some (.inl (bI nm))] [] (I1, L, P) := fun I1 st nm v f1 c1 h1 h2 => by
    unfold bX5_readOperand_66
    dsimp only [x_int, x_lng, x_ild, x_lld, x_ald, x_ist, x_ast, x_lst, x_inc, x_ii, x_id, x_i, x_ll, x_ld, x_l, x_cmp, x_i2l, x_l2i, x_if, x_ic, x_dup, x_pop, x_dup2, x_gI, x_gL, x_gR, x_g1, x_g0, x_gP, x_pI, x_pZ, x_pL, x_pP, x_al, x_as, x_all, x_asl, x_alr, x_len, x_cpy, x_m2, x_m1, x_m2l, x_m1l, x_call, x_cv, x_ri, x_rz, x_rl, x_rv, zg, zset, zbef, zlong, zcat, cond_true, cond_false, List.take, List.drop, rv1, rv2, rv3, rv4, rv5, rv6, rv7, sm0, sm1, bl0, bl1, bl2, bl3, bl4, bl5, bl6, bl7, bl8, List.nil_append, List.cons_append, List.length_cons, List.length_nil, Nat.reduceBEq, Nat.reduceAdd, Nat.reduceSub, ta, tb, tn0, tn1, tn2, tn3, tn4, tn5, tn6, tn7, tn8, tn9, tn10, tn11, tn12]
    have m1 := hm.r f1
    refine p_countKnot (st := st) (d := d) (w := w) (cnt := cnt) (Q := Q) (cs := cs) hP d2 i5 (fun j ej => ?_) c1 (fun I2 f2 c2 k2 => ?_)
    · obtain ⟨-, z2, -⟩ := h1 j ej
      rw [z2]; exact x2
    have m2 : TKm B n m I2 := m1.q (fun a c q => f2 _ _ _ (by omega) (by unfold rdK; omega))
    have h2' : ∀ j, ckA cnt st = .inl j → st = .inl i ∧ ¬ cnt = 64 := fun j ej => by
      cases st with
      | inr x => cases ej
      | inl q =>
        obtain ⟨z1, -⟩ := h1 q rfl
        refine ⟨z1, fun z => ?_⟩
        rw [show ckA cnt (.inl q) = .inr (2, q) from if_pos z] at ej
        cases ej
    have fin : ∀ u : Int32, (∀ j, ckA cnt st = .inl j → u = v) → bX5_readOperand_87 K [some rdR, some (.inl (nI (kd B n i))), some (.inl (bI nm))] [.inl u, rdR] (I2, L, P) := fun u hu => by
      unfold bX5_readOperand_87
      dsimp only [x_int, x_lng, x_ild, x_lld, x_ald, x_ist, x_ast, x_lst, x_inc, x_ii, x_id, x_i, x_ll, x_ld, x_l, x_cmp, x_i2l, x_l2i, x_if, x_ic, x_dup, x_pop, x_dup2, x_gI, x_gL, x_gR, x_g1, x_g0, x_gP, x_pI, x_pZ, x_pL, x_pP, x_al, x_as, x_all, x_asl, x_alr, x_len, x_cpy, x_m2, x_m1, x_m2l, x_m1l, x_call, x_cv, x_ri, x_rz, x_rl, x_rv, zg, zset, zbef, zlong, zcat, cond_true, cond_false, List.take, List.drop, rv1, rv2, rv3, rv4, rv5, rv6, rv7, sm0, sm1, bl0, bl1, bl2, bl3, bl4, bl5, bl6, bl7, bl8, List.nil_append, List.cons_append, List.length_cons, List.length_nil, Nat.reduceBEq, Nat.reduceAdd, Nat.reduceSub, ta, tb, tn0, tn1, tn2, tn3, tn4, tn5, tn6, tn7, tn8, tn9, tn10, tn11, tn12]
      refine p_emit (q := 3 * d + w) (l := cs.length) (c := u) (fun j ej => ?_) c2 (fun I3 f3 g3 g4 => ?_)
      · obtain ⟨z1, z2⟩ := h2' j ej
        refine ⟨hL, by omega, ?_, by omega⟩
        rw [f2 _ _ _ (by omega) (by unfold rdK; omega), f1 _ _ _ (by omega)]; exact xl.1
      dsimp only [x_int, x_lng, x_ild, x_lld, x_ald, x_ist, x_ast, x_lst, x_inc, x_ii, x_id, x_i, x_ll, x_ld, x_l, x_cmp, x_i2l, x_l2i, x_if, x_ic, x_dup, x_pop, x_dup2, x_gI, x_gL, x_gR, x_g1, x_g0, x_gP, x_pI, x_pZ, x_pL, x_pP, x_al, x_as, x_all, x_asl, x_alr, x_len, x_cpy, x_m2, x_m1, x_m2l, x_m1l, x_call, x_cv, x_ri, x_rz, x_rl, x_rv, zg, zset, zbef, zlong, zcat, cond_true, cond_false, List.take, List.drop, rv1, rv2, rv3, rv4, rv5, rv6, rv7, sm0, sm1, bl0, bl1, bl2, bl3, bl4, bl5, bl6, bl7, bl8, List.nil_append, List.cons_append, List.length_cons, List.length_nil, Nat.reduceBEq, Nat.reduceAdd, Nat.reduceSub, ta, tb, tn0, tn1, tn2, tn3, tn4, tn5, tn6, tn7, tn8, tn9, tn10, tn11, tn12]
      have c3 : stC B n m (ckA cnt st) I3 := c2.q (fun q => f3 _ _ _ (by omega) (by omega)) (f3 _ _ _ (by omega) (by omega)) (f3 _ _ _ (by omega) (by omega))
      have m3 : TKm B n m I3 := m2.q (fun a c q => f3 _ _ _ (by omega) (by omega))
      by_cases zz : ∃ x, ckA cnt st = .inr x
      · -- a fault: nothing more
        obtain ⟨x, ex⟩ := zz
        rw [g4 ⟨x, ex⟩] at *
        have xo : xst B n (i, cs, ws, true, mn, cnt) = .inl x := by
          cases st with
          | inr y => cases ex; exact h2 _ rfl
          | inl q =>
            obtain ⟨z1, -, -, -, z5⟩ := h1 q rfl
            cases z1
            by_cases z : cnt = 64
            · rw [show ckA cnt (.inl i) = .inr (2, i) from if_pos z] at ex
              cases ex
              rw [z5, if_pos z]
            · rw [show ckA cnt (.inl i) = .inl i from if_neg z] at ex; cases ex
        rw [ex] at c2
        have al : ∀ a b c, ¬ (a = 9 ∧ b = d ∧ c = 11) → ¬ rdK a b c → I2 a b c = I a b c := fun a b c u1 u2 => (f2 a b c u1 u2).trans (f1 a b c u2)
        -- take does nothing
        have tk : ∀ (I4 : zI), frRd I2 I4 → stC B n m (.inr x) I4 → K [] (I4, L, P) := fun I4 f4 c4 => by
          refine hK I4 (fun a b c z => (f4 a b c (fun u => z (by unfold dK; omega))).trans (al a b c (fun u => z (by unfold dK; omega)) (fun u => z (by unfold rdK at u; unfold dK; omega)))) ?_ (m2.r f4) ?_
          · rw [f4 _ _ _ (by omega)]; exact al _ _ _ (by omega) (by unfold rdK; omega)
          · rw [xo]
            refine ⟨c4, ws.length, opn ws, l72, i3, ?_, ?_⟩
            · rw [f4 _ _ _ (by omega), al _ _ _ (by omega) (by unfold rdK; omega)]; exact x3.1
            · rw [f4 _ _ _ (by omega), al _ _ _ (by omega) (by unfold rdK; omega)]; exact x4
        exact p_takF c2 (fun I4 f4 c4 => tk I4 f4 c4)
      · -- all well
        have ok : ∃ j, ckA cnt st = .inl j := by
          cases e : ckA cnt st with
          | inl j => exact ⟨j, rfl⟩
          | inr x => exact absurd ⟨x, e⟩ zz
        obtain ⟨j, ej⟩ := ok
        obtain ⟨z1, z2⟩ := h2' j ej
        subst z1
        obtain ⟨-, z3, z4, z5, z6⟩ := h1 i rfl
        rw [show ckA cnt (.inl i) = .inl i from if_neg z2] at ej c3 g3 k2 hu
        obtain ⟨v1, v2⟩ := g3 i rfl
        obtain ⟨v3, -⟩ := k2 i rfl
        have v0 := hu i rfl
        rw [if_neg z2] at z6
        rw [z6] at hK
        refine p_tak (k := kd B n i) hE n7 (by omega) m3 c3 (fun I4 f4 c4 => ?_)
        rw [show tkA B n (kd B n i) (.inl i) = .inl (i + 1) from if_pos rfl] at c4
        have al : ∀ a b c, ¬ (a = 9 ∧ b = d ∧ c = 11) → ¬ ((a = 16 ∨ a = 2) ∧ b = 3 * d + w) → ¬ rdK a b c → I4 a b c = I a b c := fun a b c u1 u2 u3 => by
          rw [f4 a b c u3, f3 a b c (by omega) (by omega), f2 a b c u1 u3, f1 a b c u3]
        refine hK I4 (fun a b c z => al a b c (fun u => z (by unfold dK; omega)) (fun u => z (by unfold dK; omega)) (fun u => z (by unfold rdK at u; unfold dK; omega))) (al _ _ _ (by omega) (by omega) (by unfold rdK; omega)) (m3.r f4) ?_
        refine ⟨c4, CQ_law hw x2 (fun a b c u1 u2 u3 => al a b c u1 (by omega) (by unfold rdK; omega)) ?_ ?_ ?_ (fun j hj => ?_), x3.q (al _ _ _ (by omega) (by omega) (by unfold rdK; omega)) (fun c => al _ _ _ (by omega) (by omega) (by unfold rdK; omega)), ?_, ?_, ?_, ?_⟩
        · rw [f4 _ _ _ (by omega), f3 _ _ _ (by omega) (by omega)]; exact v3
        · dsimp only; rw [List.length_append, List.length_singleton]; omega
        · dsimp only; rw [f4 _ _ _ (by omega), v1, List.length_append]; rfl
        · dsimp only at hj ⊢
          rw [List.length_append, List.length_singleton] at hj
          by_cases e : j = cs.length
          · subst e
            rw [f4 _ _ _ (by omega), v2, List.getD_eq_getElem?_getD, List.getElem?_append_right (by omega), Nat.sub_self]
            exact v0
          · rw [f4 _ _ _ (by omega), f3 _ _ _ (by omega) (by omega), f2 _ _ _ (by omega) (by unfold rdK; omega), f1 _ _ _ (by omega), xl.2.2 j (by omega), List.getD_eq_getElem?_getD, List.getD_eq_getElem?_getD, List.getElem?_append_left (by omega)]
        · rw [al _ _ _ (by omega) (by omega) (by unfold rdK; omega)]; exact x4
        · rw [al _ _ _ (by omega) (by omega) (by unfold rdK; omega)]; exact x5
        · exact x6.q (o := opn ws) (Nat.le_refl _) (fun c _ => al _ _ _ (by omega) (by omega) (by unfold rdK; omega))
        · rw [al _ _ _ (by omega) (by omega) (by unfold rdK; omega)]; exact x7
    dsimp only [x_int, x_lng, x_ild, x_lld, x_ald, x_ist, x_ast, x_lst, x_inc, x_ii, x_id, x_i, x_ll, x_ld, x_l, x_cmp, x_i2l, x_l2i, x_if, x_ic, x_dup, x_pop, x_dup2, x_gI, x_gL, x_gR, x_g1, x_g0, x_gP, x_pI, x_pZ, x_pL, x_pP, x_al, x_as, x_all, x_asl, x_alr, x_len, x_cpy, x_m2, x_m1, x_m2l, x_m1l, x_call, x_cv, x_ri, x_rz, x_rl, x_rv, zg, zset, zbef, zlong, zcat, cond_true, cond_false, List.take, List.drop, rv1, rv2, rv3, rv4, rv5, rv6, rv7, sm0, sm1, bl0, bl1, bl2, bl3, bl4, bl5, bl6, bl7, bl8, List.nil_append, List.cons_append, List.length_cons, List.length_nil, Nat.reduceBEq, Nat.reduceAdd, Nat.reduceSub, ta, tb, tn0, tn1, tn2, tn3, tn4, tn5, tn6, tn7, tn8, tn9, tn10, tn11, tn12]
    cases nm with
    | false =>
      refine ⟨fun _ => fin _ (fun j ej => ?_), fun z => absurd rfl z⟩
      obtain ⟨z1, -⟩ := h2' j ej
      obtain ⟨-, z3, z4, -⟩ := h1 i z1
      rw [ej] at c2
      have ei : j = i := by
        subst z1
        by_cases z : cnt = 64
        · rw [show ckA cnt (.inl i) = .inr (2, i) from if_pos z] at ej; cases ej
        · rw [show ckA cnt (.inl i) = .inl i from if_neg z] at ej; cases ej; rfl
      rw [z4, if_neg (by decide), ← ei]
      exact c2.2.2.2.2.2.2
    | true =>
      refine ⟨fun z => absurd z (by decide), fun _ => fin _ (fun j ej => ?_)⟩
      obtain ⟨z1, -⟩ := h2' j ej
      obtain ⟨-, z3, z4, -⟩ := h1 i z1
      rw [z4, if_pos rfl]
  show bX5_readOperand_0 K [some (.inr (.inr (5,0))), none, none] [] (I, L, P)
  unfold bX5_readOperand_0
  dsimp only [x_int, x_lng, x_ild, x_lld, x_ald, x_ist, x_ast, x_lst, x_inc, x_ii, x_id, x_i, x_ll, x_ld, x_l, x_cmp, x_i2l, x_l2i, x_if, x_ic, x_dup, x_pop, x_dup2, x_gI, x_gL, x_gR, x_g1, x_g0, x_gP, x_pI, x_pZ, x_pL, x_pP, x_al, x_as, x_all, x_asl, x_alr, x_len, x_cpy, x_m2, x_m1, x_m2l, x_m1l, x_call, x_cv, x_ri, x_rz, x_rl, x_rv, zg, zset, zbef, zlong, zcat, cond_true, cond_false, List.take, List.drop, rv1, rv2, rv3, rv4, rv5, rv6, rv7, sm0, sm1, bl0, bl1, bl2, bl3, bl4, bl5, bl6, bl7, bl8, List.nil_append, List.cons_append, List.length_cons, List.length_nil, Nat.reduceBEq, Nat.reduceAdd, Nat.reduceSub, ta, tb, tn0, tn1, tn2, tn3, tn4, tn5, tn6, tn7, tn8, tn9, tn10, tn11, tn12]
  rw [x1.2.2.2.2.1]
  have e25 : ∀ nm : Bool, (nm = true ↔ (12 ≤ kd B n i ∧ kd B n i ≤ 18)) → bX5_readOperand_25 K [some rdR, some (.inl (nI (kd B n i))), none] [.inl (bI nm)] (I, L, P) := fun nm hnm => by
    unfold bX5_readOperand_25
    dsimp only [x_int, x_lng, x_ild, x_lld, x_ald, x_ist, x_ast, x_lst, x_inc, x_ii, x_id, x_i, x_ll, x_ld, x_l, x_cmp, x_i2l, x_l2i, x_if, x_ic, x_dup, x_pop, x_dup2, x_gI, x_gL, x_gR, x_g1, x_g0, x_gP, x_pI, x_pZ, x_pL, x_pP, x_al, x_as, x_all, x_asl, x_alr, x_len, x_cpy, x_m2, x_m1, x_m2l, x_m1l, x_call, x_cv, x_ri, x_rz, x_rl, x_rv, zg, zset, zbef, zlong, zcat, cond_true, cond_false, List.take, List.drop, rv1, rv2, rv3, rv4, rv5, rv6, rv7, sm0, sm1, bl0, bl1, bl2, bl3, bl4, bl5, bl6, bl7, bl8, List.nil_append, List.cons_append, List.length_cons, List.length_nil, Nat.reduceBEq, Nat.reduceAdd, Nat.reduceSub, ta, tb, tn0, tn1, tn2, tn3, tn4, tn5, tn6, tn7, tn8, tn9, tn10, tn11, tn12]
    cases nm with
    | true =>
      have c := hnm.mp rfl
      rw [if_pos c] at xe
      refine ⟨fun z => absurd z (by decide), fun _ => ?_⟩
      unfold bX5_readOperand_44
      dsimp only [x_int, x_lng, x_ild, x_lld, x_ald, x_ist, x_ast, x_lst, x_inc, x_ii, x_id, x_i, x_ll, x_ld, x_l, x_cmp, x_i2l, x_l2i, x_if, x_ic, x_dup, x_pop, x_dup2, x_gI, x_gL, x_gR, x_g1, x_g0, x_gP, x_pI, x_pZ, x_pL, x_pP, x_al, x_as, x_all, x_asl, x_alr, x_len, x_cpy, x_m2, x_m1, x_m2l, x_m1l, x_call, x_cv, x_ri, x_rz, x_rl, x_rv, zg, zset, zbef, zlong, zcat, cond_true, cond_false, List.take, List.drop, rv1, rv2, rv3, rv4, rv5, rv6, rv7, sm0, sm1, bl0, bl1, bl2, bl3, bl4, bl5, bl6, bl7, bl8, List.nil_append, List.cons_append, List.length_cons, List.length_nil, Nat.reduceBEq, Nat.reduceAdd, Nat.reduceSub, ta, tb, tn0, tn1, tn2, tn3, tn4, tn5, tn6, tn7, tn8, tn9, tn10, tn11, tn12]
      refine ⟨fun z => absurd z (by decide), fun _ => e66 I (.inl i) true _ frRd.rf x1 (fun j _ => ⟨rfl, rfl, rfl, Or.inl c, ?_⟩) (fun x ex => by cases ex)⟩
      rw [xe, if_pos rfl]
    | false =>
      have c : ¬ (12 ≤ kd B n i ∧ kd B n i ≤ 18) := fun z => by have := hnm.mpr z; cases this
      rw [if_neg c] at xe
      refine ⟨fun _ => ⟨fun z => ?_, fun z => p_fail (st := .inl i) (e := 1) (by omega) x1 (fun I1 f1 c1 => e66 I1 _ false 0 f1 c1 (fun j ej => by cases ej) (fun x ex => ?_))⟩, fun z => absurd rfl z⟩
      · have z : nI (kd B n i) = nI 20 := z
        rw [n_eq (by omega) (by omega)] at z
        rw [if_pos z] at xe
        unfold bX5_readOperand_44
        dsimp only [x_int, x_lng, x_ild, x_lld, x_ald, x_ist, x_ast, x_lst, x_inc, x_ii, x_id, x_i, x_ll, x_ld, x_l, x_cmp, x_i2l, x_l2i, x_if, x_ic, x_dup, x_pop, x_dup2, x_gI, x_gL, x_gR, x_g1, x_g0, x_gP, x_pI, x_pZ, x_pL, x_pP, x_al, x_as, x_all, x_asl, x_alr, x_len, x_cpy, x_m2, x_m1, x_m2l, x_m1l, x_call, x_cv, x_ri, x_rz, x_rl, x_rv, zg, zset, zbef, zlong, zcat, cond_true, cond_false, List.take, List.drop, rv1, rv2, rv3, rv4, rv5, rv6, rv7, sm0, sm1, bl0, bl1, bl2, bl3, bl4, bl5, bl6, bl7, bl8, List.nil_append, List.cons_append, List.length_cons, List.length_nil, Nat.reduceBEq, Nat.reduceAdd, Nat.reduceSub, ta, tb, tn0, tn1, tn2, tn3, tn4, tn5, tn6, tn7, tn8, tn9, tn10, tn11, tn12]
        rw [x1.2.2.2.2.2.2]
        refine ⟨fun _ => ⟨fun y => e66 I (.inl i) false _ frRd.rf x1 (fun j _ => ⟨rfl, rfl, rfl, Or.inr z, ?_⟩) (fun x ex => by cases ex), fun y => p_fail (st := .inl i) (e := 2) (by omega) x1 (fun I1 f1 c1 => e66 I1 _ false 0 f1 c1 (fun j ej => by cases ej) (fun x ex => ?_))⟩, fun y => absurd rfl y⟩
        · have y : vl B n i ≤ nI 9999 := y
          rw [xe, if_pos y]; rfl
        · have y : ¬ vl B n i ≤ nI 9999 := y
          cases ex
          rw [xe, if_neg y]
      · have z : ¬ nI (kd B n i) = nI 20 := z
        rw [n_eq (by omega) (by omega)] at z
        cases ex
        rw [xe, if_neg z]
  unfold bX5_readOperand_24
  refine ⟨fun z => e25 false ⟨fun y => (by cases y), fun y => ?_⟩, fun z => ⟨fun y => e25 false ⟨fun u => (by cases u), fun u => ?_⟩, fun y => e25 true ⟨fun _ => ?_, fun _ => rfl⟩⟩⟩
  · have z : nI (kd B n i) < nI 12 := z
    rw [n_lt (by omega) (by omega)] at z
    omega
  · have y : nI 18 < nI (kd B n i) := y
    rw [n_lt (by omega) (by omega)] at y
    omega
  · have z : ¬ nI (kd B n i) < nI 12 := z
    have y : ¬ nI 18 < nI (kd B n i) := y
    rw [n_lt (by omega) (by omega)] at z y
    omega
