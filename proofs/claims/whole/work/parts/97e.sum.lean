theorem popC_cm5 {r : Nat} (hr : 5 ≤ r) : ∀ {ws : List Nat}, cmT (popC r ws).2 = cmT ws := by
  intro ws
  induction ws with
  | nil => rfl
  | cons q ws ih =>
    by_cases c : r ≤ rkC q
    · rw [show popC r (q :: ws) = (-(nI q) :: (popC r ws).1, (popC r ws).2) from if_pos c]
      have z : ¬ q = 22 := fun z => by rw [z, rkC_22] at c; omega
      show cmT (popC r ws).2 = if q = 22 then false else if rkC q = 4 then true else cmT ws
      rw [if_neg z, if_neg (by omega)]; exact ih
    · rw [show popC r (q :: ws) = ([], q :: ws) from if_neg c]
theorem p_readSign {K : zQ} {I : zI} {L : zJ} {P : zP} {B : Nat → Nat} {n m d w c0 i cnt : Nat} {Q : aQ} {cs : List Int32} {ws : List Nat} {mn : Bool} (hy : rdY B n m d w P) (hm : TKm B n m I) (hX : XC B n m d w Q (i, cs, ws, false, mn, cnt) I) (hI : XI c0 (i, cs, ws, false, mn, cnt)) (hk : isB (kd B n i)) (hK : ∀ I' : zI, frD d I I' → I' 9 d 12 = I 9 d 12 → TKm B n m I' → xout B n m d w Q (xst B n (i, cs, ws, false, mn, cnt)) I' → K [] (I', L, P)) : mX5_readSign K [rdR] (I, L, P) := by
  obtain ⟨⟨hE, n7, hP, d2⟩, hL, hw⟩ := hy
  have l72 := hI.l72
  obtain ⟨i1, -, i3, i4, i5, i6⟩ := hI
  dsimp only at l72 i1 i3 i4 i5 i6
  have xl := hX.law hw
  obtain ⟨x1, x2, x3, x4, x5, x6, x7⟩ := hX
  dsimp only at x1 x2 x3 x4 x5 x6 x7 xl
  have ol := opn_le ws
  have kl := kd_le B n i
  obtain ⟨r1, r2, r3, r4, r5⟩ := rkC_b hk
  have xe : xst B n (i, cs, ws, false, mn, cnt) = (if rkC (kd B n i) = 4 ∧ cmT ws = true then .inl (1, i)
      else if cnt = 64 then .inl (2, i)
      else .inr (.inr (i + 1, cs ++ (popC (rkC (kd B n i)) ws).1, kd B n i :: (popC (rkC (kd B n i)) ws).2, true, decide (kd B n i = 9 ∨ kd B n i = 10), cnt + 1))) := by
    unfold xst
    dsimp only
    rw [if_neg (by decide), if_neg (by unfold isB at hk; omega), if_pos hk]
  have kb : isB (kd B n i) := hk
  generalize hκ : kd B n i = κ at *
  generalize hr : rkC κ = r at *
  -- the flags, then the token
  have e67 : ∀ (I3 : zI) (b : Bool), (b = true ↔ (κ = 9 ∨ κ = 10)) → I3 5 0 6 = nI (opn ws) → (∀ (I4 : zI), (∀ a b c, ¬ (a = 5 ∧ b = 0 ∧ c = 7) → ¬ (a = 24 ∧ b = 0 ∧ c = opn ws) → I4 a b c = I3 a b c) → I4 5 0 7 = bI b → I4 24 0 (opn ws) = (if b = true then 0 else if r = 4 then 1 else I3 24 0 (opn ws)) → bX5_readSign_105 K [some rdR, some (.inl (nI κ)), some (.inl (nI r))] [] (I4, L, P)) → bX5_readSign_67 K [some rdR, some (.inl (nI κ)), some (.inl (nI r))] [.inl (bI b), rdR] (I3, L, P) := fun I3 b hb o3 h4 => by
    unfold bX5_readSign_67
    dsimp only [x_int, x_lng, x_ild, x_lld, x_ald, x_ist, x_ast, x_lst, x_inc, x_ii, x_id, x_i, x_ll, x_ld, x_l, x_cmp, x_i2l, x_l2i, x_if, x_ic, x_dup, x_pop, x_dup2, x_gI, x_gL, x_gR, x_g1, x_g0, x_gP, x_pI, x_pZ, x_pL, x_pP, x_al, x_as, x_all, x_asl, x_alr, x_len, x_cpy, x_m2, x_m1, x_m2l, x_m1l, x_call, x_cv, x_ri, x_rz, x_rl, x_rv, zg, zset, zbef, zlong, zcat, cond_true, cond_false, List.take, List.drop, rv1, rv2, rv3, rv4, rv5, rv6, rv7, sm0, sm1, bl0, bl1, bl2, bl3, bl4, bl5, bl6, bl7, bl8, List.nil_append, List.cons_append, List.length_cons, List.length_nil, Nat.reduceBEq, Nat.reduceAdd, Nat.reduceSub, ta, tb, tn0, tn1, tn2, tn3, tn4, tn5, tn6, tn7, tn8, tn9, tn10, tn11, tn12, zk_24, zl_24]
    refine ⟨by cases b; exact Or.inl rfl; exact Or.inr rfl, ?_⟩
    obtain ⟨J1, e1, y1, k1⟩ := zsI_ex I3 L P 5 0 7 (bI b)
    rw [e1]
    dsimp only
    have o1 : J1 5 0 6 = nI (opn ws) := (k1 _ _ _ (by decide)).trans o3
    rw [y1, o1, n_cl (n := opn ws) (by omega), nar0, nar1]
    cases b with
    | false =>
      rw [if_neg (by decide)] at h4
      refine ⟨fun _ => ⟨fun z => ⟨n_zin (by omega) (by decide), ?_⟩, fun z => ?_⟩, fun z => absurd rfl z⟩
      · have z : nI r = nI 4 := z
        rw [n_eq (by omega) (by omega)] at z
        rw [if_pos z] at h4
        obtain ⟨J2, e2, y2, k2⟩ := zsI_ex J1 L P 24 0 (opn ws) 1
        rw [e2]
        exact h4 J2 (fun a b c u1 u2 => (k2 a b c u2).trans (k1 a b c u1)) ((k2 _ _ _ (by omega)).trans y1) y2
      · have z : ¬ nI r = nI 4 := z
        rw [n_eq (by omega) (by omega)] at z
        rw [if_neg z] at h4
        exact h4 J1 (fun a b c u1 u2 => k1 a b c u1) y1 (k1 _ _ _ (by omega))
    | true =>
      rw [if_pos rfl] at h4
      refine ⟨fun z => absurd z (by decide), fun _ => ⟨n_zin (by omega) (by decide), ?_⟩⟩
      obtain ⟨J2, e2, y2, k2⟩ := zsI_ex J1 L P 24 0 (opn ws) 0
      rw [e2]
      exact h4 J2 (fun a b c u1 u2 => (k2 a b c u2).trans (k1 a b c u1)) ((k2 _ _ _ (by omega)).trans y1) y2
  have esel : ∀ (I3 : zI), (∀ b : Bool, (b = true ↔ (κ = 9 ∨ κ = 10)) → bX5_readSign_67 K [some rdR, some (.inl (nI κ)), some (.inl (nI r))] [.inl (bI b), rdR] (I3, L, P)) → ((nI κ = 10 → bX5_readSign_62 K [some rdR, some (.inl (nI κ)), some (.inl (nI r))] [rdR] (I3, L, P)) ∧ (¬ nI κ = 10 → (nI κ = 9 → bX5_readSign_62 K [some rdR, some (.inl (nI κ)), some (.inl (nI r))] [rdR] (I3, L, P)) ∧ (¬ nI κ = 9 → bX5_readSign_67 K [some rdR, some (.inl (nI κ)), some (.inl (nI r))] [.inl 0, rdR] (I3, L, P)))) := fun I3 h => by
    have e10 : (nI κ = 10) ↔ κ = 10 := n_eq (b := 10) (by omega) (by omega)
    have e9 : (nI κ = 9) ↔ κ = 9 := n_eq (b := 9) (by omega) (by omega)
    unfold bX5_readSign_62
    refine ⟨fun z => h true ⟨fun _ => Or.inr (e10.mp z), fun _ => rfl⟩, fun z => ⟨fun y => h true ⟨fun _ => Or.inl (e9.mp y), fun _ => rfl⟩, fun y => h false ⟨fun u => (by cases u), fun u => u.elim (fun v => absurd (e9.mpr v) y) (fun v => absurd (e10.mpr v) z)⟩⟩⟩
  have b35 : ∀ (I1 : zI) (st : aR), frRd I I1 → stC B n m st I1 → ((st = .inl i ∧ I1 = I ∧ ¬ (r = 4 ∧ cmT ws = true)) ∨ ∃ e, st = .inr e ∧ xst B n (i, cs, ws, false, mn, cnt) = .inl e) → bX5_readSign_35 K [some rdR, some (.inl (nI κ)), some (.inl (nI r))] [] (I1, L, P) := fun I1 st f1 c1 hs => by
    unfold bX5_readSign_35
    dsimp only [x_int, x_lng, x_ild, x_lld, x_ald, x_ist, x_ast, x_lst, x_inc, x_ii, x_id, x_i, x_ll, x_ld, x_l, x_cmp, x_i2l, x_l2i, x_if, x_ic, x_dup, x_pop, x_dup2, x_gI, x_gL, x_gR, x_g1, x_g0, x_gP, x_pI, x_pZ, x_pL, x_pP, x_al, x_as, x_all, x_asl, x_alr, x_len, x_cpy, x_m2, x_m1, x_m2l, x_m1l, x_call, x_cv, x_ri, x_rz, x_rl, x_rv, zg, zset, zbef, zlong, zcat, cond_true, cond_false, List.take, List.drop, rv1, rv2, rv3, rv4, rv5, rv6, rv7, sm0, sm1, bl0, bl1, bl2, bl3, bl4, bl5, bl6, bl7, bl8, List.nil_append, List.cons_append, List.length_cons, List.length_nil, Nat.reduceBEq, Nat.reduceAdd, Nat.reduceSub, ta, tb, tn0, tn1, tn2, tn3, tn4, tn5, tn6, tn7, tn8, tn9, tn10, tn11, tn12]
    refine p_countKnot (st := st) (d := d) (w := w) (cnt := cnt) (Q := Q) (cs := cs) hP d2 i5 (fun j ej => ?_) c1 (fun I2 f2 c2 k2 => ?_)
    · rcases hs with ⟨-, z2, -⟩ | ⟨e, z1, -⟩
      · rw [z2]; exact x2
      · rw [z1] at ej; cases ej
    have m2 : TKm B n m I2 := (hm.r f1).q (fun a c q => f2 _ _ _ (by omega) (by unfold rdK; omega))
    have al2 : ∀ a b c, ¬ (a = 9 ∧ b = d ∧ c = 11) → ¬ rdK a b c → I2 a b c = I a b c := fun a b c u1 u2 => (f2 a b c u1 u2).trans (f1 a b c u2)
    have hh2 : I2 5 0 5 = nI ws.length := (al2 _ _ _ (by omega) (by unfold rdK; omega)).trans x3.1
    have ho2 : I2 5 0 6 = nI (opn ws) := (al2 _ _ _ (by omega) (by unfold rdK; omega)).trans x4
    dsimp only [x_int, x_lng, x_ild, x_lld, x_ald, x_ist, x_ast, x_lst, x_inc, x_ii, x_id, x_i, x_ll, x_ld, x_l, x_cmp, x_i2l, x_l2i, x_if, x_ic, x_dup, x_pop, x_dup2, x_gI, x_gL, x_gR, x_g1, x_g0, x_gP, x_pI, x_pZ, x_pL, x_pP, x_al, x_as, x_all, x_asl, x_alr, x_len, x_cpy, x_m2, x_m1, x_m2l, x_m1l, x_call, x_cv, x_ri, x_rz, x_rl, x_rv, zg, zset, zbef, zlong, zcat, cond_true, cond_false, List.take, List.drop, rv1, rv2, rv3, rv4, rv5, rv6, rv7, sm0, sm1, bl0, bl1, bl2, bl3, bl4, bl5, bl6, bl7, bl8, List.nil_append, List.cons_append, List.length_cons, List.length_nil, Nat.reduceBEq, Nat.reduceAdd, Nat.reduceSub, ta, tb, tn0, tn1, tn2, tn3, tn4, tn5, tn6, tn7, tn8, tn9, tn10, tn11, tn12]
    by_cases ok : st = .inl i ∧ ¬ (r = 4 ∧ cmT ws = true) ∧ ¬ cnt = 64
    · obtain ⟨z1, z2, z3⟩ := ok
      subst z1
      rw [if_neg z2, if_neg z3] at xe
      rw [xe] at hK
      rw [show ckA cnt (.inl i) = .inl i from if_neg z3] at c2 k2
      obtain ⟨v1, v2⟩ := k2 i rfl
      have po := popC_opn (r := r) r1 (ws := ws)
      have pl := popC_len (r := r) (ws := ws)
      have pol := opn_le (popC r ws).2
      refine p_release (q := 3 * d + w) (r := r) (cs := cs) ⟨hL, by omega⟩ ((al2 _ _ _ (by omega) (by unfold rdK; omega)).trans xl.1) (fun j hj => (al2 _ _ _ (by omega) (by unfold rdK; omega)).trans (xl.2.2 j hj)) (x3.q (al2 _ _ _ (by omega) (by unfold rdK; omega)) (fun c => al2 _ _ _ (by omega) (by unfold rdK; omega))) l72 (by omega) (fun x hx => sgK_35 (i6 x hx)) r2 c2 (fun I3 f3 s3 l3 q3 => ?_)
      have c3 : stC B n m (.inl i) I3 := c2.q (fun q => f3 _ _ _ (by omega) (by omega)) (f3 _ _ _ (by decide) (by omega)) (f3 _ _ _ (by decide) (by omega))
      have m3 : TKm B n m I3 := m2.q (fun a c q => f3 _ _ _ (by omega) (by omega))
      dsimp only [x_int, x_lng, x_ild, x_lld, x_ald, x_ist, x_ast, x_lst, x_inc, x_ii, x_id, x_i, x_ll, x_ld, x_l, x_cmp, x_i2l, x_l2i, x_if, x_ic, x_dup, x_pop, x_dup2, x_gI, x_gL, x_gR, x_g1, x_g0, x_gP, x_pI, x_pZ, x_pL, x_pP, x_al, x_as, x_all, x_asl, x_alr, x_len, x_cpy, x_m2, x_m1, x_m2l, x_m1l, x_call, x_cv, x_ri, x_rz, x_rl, x_rv, zg, zset, zbef, zlong, zcat, cond_true, cond_false, List.take, List.drop, rv1, rv2, rv3, rv4, rv5, rv6, rv7, sm0, sm1, bl0, bl1, bl2, bl3, bl4, bl5, bl6, bl7, bl8, List.nil_append, List.cons_append, List.length_cons, List.length_nil, Nat.reduceBEq, Nat.reduceAdd, Nat.reduceSub, ta, tb, tn0, tn1, tn2, tn3, tn4, tn5, tn6, tn7, tn8, tn9, tn10, tn11, tn12]
      refine p_push (k := κ) (h0 := (popC r ws).2.length) s3.1 (by omega) (fun j ej => by omega) c3 (fun I4 f4 g4 _ => ?_)
      obtain ⟨w1, w2⟩ := g4 i rfl
      have c4 : stC B n m (.inl i) I4 := c3.q (fun q => f4 _ _ _ (by omega) (by omega)) (f4 _ _ _ (by omega) (by decide)) (f4 _ _ _ (by omega) (by decide))
      have m4 : TKm B n m I4 := m3.q (fun a c q => f4 _ _ _ (by omega) (by omega))
      dsimp only [x_int, x_lng, x_ild, x_lld, x_ald, x_ist, x_ast, x_lst, x_inc, x_ii, x_id, x_i, x_ll, x_ld, x_l, x_cmp, x_i2l, x_l2i, x_if, x_ic, x_dup, x_pop, x_dup2, x_gI, x_gL, x_gR, x_g1, x_g0, x_gP, x_pI, x_pZ, x_pL, x_pP, x_al, x_as, x_all, x_asl, x_alr, x_len, x_cpy, x_m2, x_m1, x_m2l, x_m1l, x_call, x_cv, x_ri, x_rz, x_rl, x_rv, zg, zset, zbef, zlong, zcat, cond_true, cond_false, List.take, List.drop, rv1, rv2, rv3, rv4, rv5, rv6, rv7, sm0, sm1, bl0, bl1, bl2, bl3, bl4, bl5, bl6, bl7, bl8, List.nil_append, List.cons_append, List.length_cons, List.length_nil, Nat.reduceBEq, Nat.reduceAdd, Nat.reduceSub, ta, tb, tn0, tn1, tn2, tn3, tn4, tn5, tn6, tn7, tn8, tn9, tn10, tn11, tn12]
      refine esel I4 (fun b hb => e67 I4 b hb ?_ (fun I5 f5 y5 t5 => ?_))
      · rw [f4 _ _ _ (by omega) (by decide), f3 _ _ _ (by decide) (by omega)]; exact ho2
      have c5 : stC B n m (.inl i) I5 := c4.q (fun q => f5 _ _ _ (by omega) (by omega)) (f5 _ _ _ (by decide) (by omega)) (f5 _ _ _ (by decide) (by omega))
      have m5 : TKm B n m I5 := m4.q (fun a c q => f5 _ _ _ (by omega) (by omega))
      unfold bX5_readSign_105
      dsimp only [x_int, x_lng, x_ild, x_lld, x_ald, x_ist, x_ast, x_lst, x_inc, x_ii, x_id, x_i, x_ll, x_ld, x_l, x_cmp, x_i2l, x_l2i, x_if, x_ic, x_dup, x_pop, x_dup2, x_gI, x_gL, x_gR, x_g1, x_g0, x_gP, x_pI, x_pZ, x_pL, x_pP, x_al, x_as, x_all, x_asl, x_alr, x_len, x_cpy, x_m2, x_m1, x_m2l, x_m1l, x_call, x_cv, x_ri, x_rz, x_rl, x_rv, zg, zset, zbef, zlong, zcat, cond_true, cond_false, List.take, List.drop, rv1, rv2, rv3, rv4, rv5, rv6, rv7, sm0, sm1, bl0, bl1, bl2, bl3, bl4, bl5, bl6, bl7, bl8, List.nil_append, List.cons_append, List.length_cons, List.length_nil, Nat.reduceBEq, Nat.reduceAdd, Nat.reduceSub, ta, tb, tn0, tn1, tn2, tn3, tn4, tn5, tn6, tn7, tn8, tn9, tn10, tn11, tn12]
      refine p_tak (k := κ) hE n7 (by unfold isB at kb; omega) m5 c5 (fun I6 f6 c6 => ?_)
      rw [show tkA B n κ (.inl i) = .inl (i + 1) from if_pos hκ] at c6
      have al : ∀ a b c, ¬ (a = 9 ∧ b = d ∧ c = 11) → ¬ (a = 5 ∧ b = 0 ∧ (c = 5 ∨ c = 7)) → ¬ ((a = 16 ∨ a = 2) ∧ b = 3 * d + w) → ¬ (a = 23 ∧ b = 0 ∧ c = (popC r ws).2.length) → ¬ (a = 24 ∧ b = 0 ∧ c = opn ws) → ¬ rdK a b c → I6 a b c = I a b c := fun a b c u1 u2 u3 u4 u5 u6 => by
        rw [f6 a b c u6, f5 a b c (by omega) u5, f4 a b c u4 (by omega), f3 a b c (by omega) u3, al2 a b c u1 u6]
      have lw : ∀ a b c, a = 16 ∨ a = 2 → I6 a b c = I3 a b c := fun a b c u => by rw [f6 a b c (by omega), f5 a b c (by omega) (by omega), f4 a b c (by omega) (by omega)]
      have oc : opn (κ :: (popC r ws).2) = opn ws := by
        show opn (popC r ws).2 + (if κ = 22 then 1 else 0) = _
        rw [if_neg r4, po]; rfl
      refine hK I6 (fun a b c z => al a b c (fun u => z (by unfold dK; omega)) (fun u => z (by unfold dK; omega)) (fun u => z (by unfold dK; omega)) (fun u => z (by unfold dK; omega)) (fun u => z (by unfold dK; omega)) (fun u => z (by unfold rdK at u; unfold dK; omega))) (al _ _ _ (by omega) (by omega) (by omega) (by omega) (by omega) (by unfold rdK; omega)) (m5.r f6) ?_
      refine ⟨c6, CQ_law hw x2 (fun a b c u1 u2 u3 => al a b c u1 (by omega) (by omega) (by omega) (by omega) (by unfold rdK; omega)) ?_ ?_ ?_ (fun j hj => ?_), sgR_push s3 ?_ ?_ (fun c u => ?_), ?_, ?_, ⟨fun u => absurd u r4, ?_⟩, ?_⟩
      · rw [f6 _ _ _ (by omega), f5 _ _ _ (by omega) (by omega), f4 _ _ _ (by omega) (by omega), f3 _ _ _ (by omega) (by omega)]; exact v1
      · dsimp only; rw [List.length_append]; omega
      · rw [lw _ _ _ (by omega)]; exact l3
      · rw [lw _ _ _ (by omega)]; exact q3 j hj
      · rw [f6 _ _ _ (by omega), f5 _ _ _ (by decide) (by omega)]; exact w1
      · rw [f6 _ _ _ (by omega), f5 _ _ _ (by omega) (by omega)]; exact w2
      · rw [f6 _ _ _ (by omega), f5 _ _ _ (by omega) (by omega), f4 _ _ _ (by omega) (by omega)]
      · dsimp only
        rw [oc, al _ _ _ (by omega) (by decide) (by omega) (by omega) (by omega) (by unfold rdK; omega)]; exact x4
      · dsimp only
        rw [oc, f6 _ _ _ (by omega), t5]
        have cc : cmT (κ :: (popC r ws).2) = if r = 4 then true else cmT (popC r ws).2 := by
          show (if κ = 22 then false else if rkC κ = 4 then true else _) = _
          rw [if_neg r4, hr]
        cases b with
        | true =>
          have k9 := hb.mp rfl
          have r3' := r5.mpr k9
          rw [if_pos rfl, cc, if_neg (by omega), srt_low (popC_srt i1) (fun k l q => by have := popC_top q; omega)]
          rfl
        | false =>
          rw [if_neg (by decide), cc]
          by_cases z : r = 4
          · rw [if_pos z, if_pos z]; rfl
          · have r56 : 5 ≤ r := by
              by_cases y : r < 3
              · have := hb.mpr (r5.mp y); cases this
              · omega
            rw [if_neg z, if_neg z, popC_cm5 r56, f4 _ _ _ (by omega) (by omega), f3 _ _ _ (by omega) (by omega), al2 _ _ _ (by omega) (by unfold rdK; omega)]
            exact x5
      · refine (icB_pop x6).q (o := opn ws) (by rw [po]; exact Nat.le_refl _) (fun c hc => al _ _ _ (by omega) (by omega) (by omega) (by omega) (by omega) (by unfold rdK; omega))
      · rw [f6 _ _ _ (by omega), y5]
        congr 1
        cases b with
        | true => exact (decide_eq_true (hb.mp rfl)).symm
        | false => exact (decide_eq_false (fun u => by have := hb.mpr u; cases this)).symm
    · -- a fault
      have bad : ∃ e, ckA cnt st = .inr e ∧ xst B n (i, cs, ws, false, mn, cnt) = .inl e := by
        rcases hs with ⟨z1, -, z3⟩ | ⟨e, z1, z2⟩
        · subst z1
          have z4 : cnt = 64 := by
            by_cases z : cnt = 64
            · exact z
            · exact absurd ⟨rfl, z3, z⟩ ok
          exact ⟨(2, i), if_pos z4, by rw [xe, if_neg z3, if_pos z4]⟩
        · subst z1
          exact ⟨e, rfl, z2⟩
      obtain ⟨e, e1, e2⟩ := bad
      rw [e1] at c2
      rw [e2] at hK
      refine p_relF hh2 l72 c2 (fun I3 h1 h1l f3 w3 => ?_)
      have c3 : stC B n m (.inr e) I3 := c2.q (fun q => f3 _ _ _ (by omega)) (f3 _ _ _ (by decide)) (f3 _ _ _ (by decide))
      have m3 : TKm B n m I3 := m2.q (fun a c q => f3 _ _ _ (by omega))
      dsimp only [x_int, x_lng, x_ild, x_lld, x_ald, x_ist, x_ast, x_lst, x_inc, x_ii, x_id, x_i, x_ll, x_ld, x_l, x_cmp, x_i2l, x_l2i, x_if, x_ic, x_dup, x_pop, x_dup2, x_gI, x_gL, x_gR, x_g1, x_g0, x_gP, x_pI, x_pZ, x_pL, x_pP, x_al, x_as, x_all, x_asl, x_alr, x_len, x_cpy, x_m2, x_m1, x_m2l, x_m1l, x_call, x_cv, x_ri, x_rz, x_rl, x_rv, zg, zset, zbef, zlong, zcat, cond_true, cond_false, List.take, List.drop, rv1, rv2, rv3, rv4, rv5, rv6, rv7, sm0, sm1, bl0, bl1, bl2, bl3, bl4, bl5, bl6, bl7, bl8, List.nil_append, List.cons_append, List.length_cons, List.length_nil, Nat.reduceBEq, Nat.reduceAdd, Nat.reduceSub, ta, tb, tn0, tn1, tn2, tn3, tn4, tn5, tn6, tn7, tn8, tn9, tn10, tn11, tn12]
      refine p_push (k := κ) (h0 := h1) w3 (by omega) (fun j ej => by cases ej) c3 (fun I4 _ _ g4 => ?_)
      rw [g4 ⟨e, rfl⟩]
      dsimp only [x_int, x_lng, x_ild, x_lld, x_ald, x_ist, x_ast, x_lst, x_inc, x_ii, x_id, x_i, x_ll, x_ld, x_l, x_cmp, x_i2l, x_l2i, x_if, x_ic, x_dup, x_pop, x_dup2, x_gI, x_gL, x_gR, x_g1, x_g0, x_gP, x_pI, x_pZ, x_pL, x_pP, x_al, x_as, x_all, x_asl, x_alr, x_len, x_cpy, x_m2, x_m1, x_m2l, x_m1l, x_call, x_cv, x_ri, x_rz, x_rl, x_rv, zg, zset, zbef, zlong, zcat, cond_true, cond_false, List.take, List.drop, rv1, rv2, rv3, rv4, rv5, rv6, rv7, sm0, sm1, bl0, bl1, bl2, bl3, bl4, bl5, bl6, bl7, bl8, List.nil_append, List.cons_append, List.length_cons, List.length_nil, Nat.reduceBEq, Nat.reduceAdd, Nat.reduceSub, ta, tb, tn0, tn1, tn2, tn3, tn4, tn5, tn6, tn7, tn8, tn9, tn10, tn11, tn12]
      refine esel I3 (fun b hb => e67 I3 b hb ?_ (fun I5 f5 y5 t5 => ?_))
      · rw [f3 _ _ _ (by decide)]; exact ho2
      have c5 : stC B n m (.inr e) I5 := c3.q (fun q => f5 _ _ _ (by omega) (by omega)) (f5 _ _ _ (by decide) (by omega)) (f5 _ _ _ (by decide) (by omega))
      have m5 : TKm B n m I5 := m3.q (fun a c q => f5 _ _ _ (by omega) (by omega))
      unfold bX5_readSign_105
      dsimp only [x_int, x_lng, x_ild, x_lld, x_ald, x_ist, x_ast, x_lst, x_inc, x_ii, x_id, x_i, x_ll, x_ld, x_l, x_cmp, x_i2l, x_l2i, x_if, x_ic, x_dup, x_pop, x_dup2, x_gI, x_gL, x_gR, x_g1, x_g0, x_gP, x_pI, x_pZ, x_pL, x_pP, x_al, x_as, x_all, x_asl, x_alr, x_len, x_cpy, x_m2, x_m1, x_m2l, x_m1l, x_call, x_cv, x_ri, x_rz, x_rl, x_rv, zg, zset, zbef, zlong, zcat, cond_true, cond_false, List.take, List.drop, rv1, rv2, rv3, rv4, rv5, rv6, rv7, sm0, sm1, bl0, bl1, bl2, bl3, bl4, bl5, bl6, bl7, bl8, List.nil_append, List.cons_append, List.length_cons, List.length_nil, Nat.reduceBEq, Nat.reduceAdd, Nat.reduceSub, ta, tb, tn0, tn1, tn2, tn3, tn4, tn5, tn6, tn7, tn8, tn9, tn10, tn11, tn12]
      refine p_takF c5 (fun I6 f6 c6 => ?_)
      have al : ∀ a b c, ¬ (a = 9 ∧ b = d ∧ c = 11) → ¬ (a = 5 ∧ b = 0 ∧ (c = 5 ∨ c = 7)) → ¬ (a = 24 ∧ b = 0 ∧ c = opn ws) → ¬ rdK a b c → I6 a b c = I a b c := fun a b c u1 u2 u5 u6 => by
        rw [f6 a b c u6, f5 a b c (by omega) u5, f3 a b c (by omega), al2 a b c u1 u6]
      refine hK I6 (fun a b c z => al a b c (fun u => z (by unfold dK; omega)) (fun u => z (by unfold dK; omega)) (fun u => z (by unfold dK; omega)) (fun u => z (by unfold rdK at u; unfold dK; omega))) (al _ _ _ (by omega) (by omega) (by omega) (by unfold rdK; omega)) (m5.r f6) ⟨c6, h1, opn ws, by omega, i3, ?_, ?_⟩
      · rw [f6 _ _ _ (by omega), f5 _ _ _ (by decide) (by omega)]; exact w3
      · rw [al _ _ _ (by omega) (by decide) (by omega) (by unfold rdK; omega)]; exact x4
  show bX5_readSign_0 K [some (.inr (.inr (5,0))), none, none] [] (I, L, P)
  unfold bX5_readSign_0
  dsimp only [x_int, x_lng, x_ild, x_lld, x_ald, x_ist, x_ast, x_lst, x_inc, x_ii, x_id, x_i, x_ll, x_ld, x_l, x_cmp, x_i2l, x_l2i, x_if, x_ic, x_dup, x_pop, x_dup2, x_gI, x_gL, x_gR, x_g1, x_g0, x_gP, x_pI, x_pZ, x_pL, x_pP, x_al, x_as, x_all, x_asl, x_alr, x_len, x_cpy, x_m2, x_m1, x_m2l, x_m1l, x_call, x_cv, x_ri, x_rz, x_rl, x_rv, zg, zset, zbef, zlong, zcat, cond_true, cond_false, List.take, List.drop, rv1, rv2, rv3, rv4, rv5, rv6, rv7, sm0, sm1, bl0, bl1, bl2, bl3, bl4, bl5, bl6, bl7, bl8, List.nil_append, List.cons_append, List.length_cons, List.length_nil, Nat.reduceBEq, Nat.reduceAdd, Nat.reduceSub, ta, tb, tn0, tn1, tn2, tn3, tn4, tn5, tn6, tn7, tn8, tn9, tn10, tn11, tn12]
  rw [x1.2.2.2.2.1, hκ]
  refine p_rankOf (by omega) ?_
  rw [hr]
  dsimp only [x_int, x_lng, x_ild, x_lld, x_ald, x_ist, x_ast, x_lst, x_inc, x_ii, x_id, x_i, x_ll, x_ld, x_l, x_cmp, x_i2l, x_l2i, x_if, x_ic, x_dup, x_pop, x_dup2, x_gI, x_gL, x_gR, x_g1, x_g0, x_gP, x_pI, x_pZ, x_pL, x_pP, x_al, x_as, x_all, x_asl, x_alr, x_len, x_cpy, x_m2, x_m1, x_m2l, x_m1l, x_call, x_cv, x_ri, x_rz, x_rl, x_rv, zg, zset, zbef, zlong, zcat, cond_true, cond_false, List.take, List.drop, rv1, rv2, rv3, rv4, rv5, rv6, rv7, sm0, sm1, bl0, bl1, bl2, bl3, bl4, bl5, bl6, bl7, bl8, List.nil_append, List.cons_append, List.length_cons, List.length_nil, Nat.reduceBEq, Nat.reduceAdd, Nat.reduceSub, ta, tb, tn0, tn1, tn2, tn3, tn4, tn5, tn6, tn7, tn8, tn9, tn10, tn11, tn12, zk_24, zl_24]
  rw [x4, n_cl (n := opn ws) (by omega), x5]
  refine ⟨fun z => ⟨n_zin (by omega) (by decide), fun y => b35 I (.inl i) frRd.rf x1 (Or.inl ⟨rfl, rfl, fun u => ?_⟩), fun y => p_fail (st := .inl i) (e := 1) (by omega) x1 (fun I1 f1 c1 => b35 I1 _ f1 c1 (Or.inr ⟨(1, i), rfl, ?_⟩))⟩, fun z => b35 I (.inl i) frRd.rf x1 (Or.inl ⟨rfl, rfl, fun u => z ?_⟩)⟩
  · rw [u.2] at y; exact absurd y (by decide)
  · have z : nI r = nI 4 := z
    rw [n_eq (by omega) (by omega)] at z
    have u : cmT ws = true := by
      cases u : cmT ws with
      | true => rfl
      | false => rw [u] at y; exact absurd rfl y
    rw [xe, if_pos ⟨z, u⟩]
  · rw [u.1]; rfl
