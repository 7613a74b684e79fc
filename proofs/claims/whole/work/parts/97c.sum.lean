def XI (c0 : Nat) (X : aX) : Prop := srt X.2.2.1 ∧ (X.2.2.2.1 = true → X.2.2.2.2.1 = true → ∀ k l, X.2.2.1 = k :: l → rkC k ≤ 3) ∧ opn X.2.2.1 ≤ 8 ∧ X.2.1.length + (X.2.2.1.length - opn X.2.2.1) + c0 = X.2.2.2.2.2 ∧ X.2.2.2.2.2 ≤ 64 ∧ ∀ x, x ∈ X.2.2.1 → sgK x
theorem sgK_35 {x : Nat} (h : sgK x) : x ≤ 35 := by unfold sgK isB at h; omega
theorem XI.l72 {c0 : Nat} {X : aX} (h : XI c0 X) : X.2.2.1.length ≤ 72 := by
  obtain ⟨-, -, h3, h4, h5, -⟩ := h
  omega
/-- brackets are open: what is left when all else is bound begins with one -/
theorem pop1_open {ws : List Nat} (h : 0 < opn ws) (hk : ∀ x, x ∈ ws → sgK x) : ∃ l, (popC 1 ws).2 = 22 :: l ∧ opn l + 1 = opn ws := by
  have ho := popC_opn (r := 1) (Nat.le_refl _) (ws := ws)
  cases e : (popC 1 ws).2 with
  | nil => rw [e] at ho; have : (0 : Nat) = opn ws := ho; omega
  | cons k l =>
    have rk := popC_top e
    have kk := popC_all hk k (by rw [e]; exact List.mem_cons_self ..)
    rcases rkC_pos kk with z | z
    · omega
    · have k22 : k = 22 := z.2
      subst k22
      rw [e] at ho
      exact ⟨l, rfl, ho⟩
theorem rkC_b {k : Nat} (h : isB k) : 1 ≤ rkC k ∧ rkC k ≤ 6 ∧ ¬ rkC k = 3 ∧ ¬ k = 22 ∧ ((rkC k < 3) ↔ (k = 9 ∨ k = 10)) := by
  have : ∀ k, k < 34 → isB k → 1 ≤ rkC k ∧ rkC k ≤ 6 ∧ ¬ rkC k = 3 ∧ ¬ k = 22 ∧ ((rkC k < 3) ↔ (k = 9 ∨ k = 10)) := by decide
  exact this k (by unfold isB at h; omega) h
theorem XI_step {B : Nat → Nat} {n c0 : Nat} {X X' : aX} (h : XI c0 X) (e : xst B n X = .inr (.inr X')) : XI c0 X' ∧ X'.1 = X.1 + 1 ∧ ¬ kd B n X.1 = 34 := by
  obtain ⟨i, cs, ws, wa, mn, cnt⟩ := X
  obtain ⟨h1, h2, h3, h4, h5, h6⟩ := h
  dsimp only at h1 h2 h3 h4 h5 h6
  have ol := opn_le ws
  unfold xst at e
  dsimp only at e
  cases wa with
  | true =>
    rw [if_pos rfl] at e
    by_cases c1 : kd B n i = 11 ∧ mn = true
    · rw [if_pos c1] at e
      by_cases c2 : cnt = 64
      · rw [if_pos c2] at e; cases e
      · rw [if_neg c2] at e
        cases e
        have o11 : opn (11 :: ws) = opn ws := rfl
        refine ⟨⟨⟨Or.inr (fun k l q => h2 rfl c1.2 k l q), h1⟩, fun _ _ k l q => ?_, by dsimp only; rw [o11]; exact h3, ?_, by dsimp only; omega, fun x hx => ?_⟩, rfl, by dsimp only; omega⟩
        · cases q; decide
        · dsimp only
          rw [o11, List.length_cons]; omega
        · rcases List.mem_cons.mp hx with z | z
          · rw [z]; exact Or.inr (Or.inl rfl)
          · exact h6 x z
    · rw [if_neg c1] at e
      by_cases c2 : kd B n i = 22
      · rw [if_pos c2] at e
        by_cases c3 : opn ws = 8
        · rw [if_pos c3] at e; cases e
        · rw [if_neg c3] at e
          cases e
          have o22 : opn (22 :: ws) = opn ws + 1 := rfl
          refine ⟨⟨⟨Or.inl rfl, h1⟩, fun _ _ k l q => ?_, by dsimp only; rw [o22]; omega, ?_, h5, fun x hx => ?_⟩, rfl, by dsimp only; omega⟩
          · cases q; decide
          · dsimp only
            rw [o22, List.length_cons]; omega
          · rcases List.mem_cons.mp hx with z | z
            · rw [z]; exact Or.inr (Or.inr rfl)
            · exact h6 x z
      · rw [if_neg c2] at e
        by_cases c3 : 12 ≤ kd B n i ∧ kd B n i ≤ 18
        · rw [if_pos c3] at e
          by_cases c4 : cnt = 64
          · rw [if_pos c4] at e; cases e
          · rw [if_neg c4] at e
            cases e
            refine ⟨⟨h1, fun z => (by cases z), h3, ?_, by dsimp only; omega, h6⟩, rfl, by dsimp only; omega⟩
            dsimp only
            rw [List.length_append, List.length_singleton]; omega
        · rw [if_neg c3] at e
          by_cases c4 : kd B n i = 20
          · rw [if_pos c4] at e
            by_cases c5 : vl B n i ≤ nI 9999
            · rw [if_pos c5] at e
              by_cases c6 : cnt = 64
              · rw [if_pos c6] at e; cases e
              · rw [if_neg c6] at e
                cases e
                refine ⟨⟨h1, fun z => (by cases z), h3, ?_, by dsimp only; omega, h6⟩, rfl, by dsimp only; omega⟩
                dsimp only
                rw [List.length_append, List.length_singleton]; omega
            · rw [if_neg c5] at e; cases e
          · rw [if_neg c4] at e; cases e
  | false =>
    rw [if_neg (by decide)] at e
    by_cases c1 : kd B n i = 23 ∧ 0 < opn ws
    · rw [if_pos c1] at e
      cases e
      obtain ⟨l, e1, e2⟩ := pop1_open c1.2 h6
      have pl := popC_len (r := 1) (ws := ws)
      have ol2 := opn_le l
      rw [e1] at pl
      rw [List.length_cons] at pl
      have s1 := popC_srt (r := 1) h1
      rw [e1] at s1
      refine ⟨⟨?_, fun z => (by cases z), ?_, ?_, h5, ?_⟩, rfl, by dsimp only; omega⟩
      · dsimp only; rw [e1]; exact s1.2
      · dsimp only; rw [e1]; show opn l ≤ 8; omega
      · dsimp only
        rw [e1, List.length_append]
        show _ + (l.length - opn l) + c0 = _
        omega
      · dsimp only
        rw [e1]
        intro x hx
        exact popC_all h6 x (by rw [e1]; exact List.mem_cons_of_mem _ hx)
    · rw [if_neg c1] at e
      by_cases c2 : isB (kd B n i)
      · rw [if_pos c2] at e
        by_cases c3 : rkC (kd B n i) = 4 ∧ cmT ws = true
        · rw [if_pos c3] at e; cases e
        · rw [if_neg c3] at e
          by_cases c4 : cnt = 64
          · rw [if_pos c4] at e; cases e
          · rw [if_neg c4] at e
            cases e
            obtain ⟨r1, r2, r3, r4, r5⟩ := rkC_b c2
            have po := popC_opn (r := rkC (kd B n i)) r1 (ws := ws)
            have pl := popC_len (r := rkC (kd B n i)) (ws := ws)
            have pol := opn_le (popC (rkC (kd B n i)) ws).2
            have oc : opn (kd B n i :: (popC (rkC (kd B n i)) ws).2) = opn ws := by
              show opn (popC (rkC (kd B n i)) ws).2 + (if kd B n i = 22 then 1 else 0) = _
              rw [if_neg r4, po]; rfl
            refine ⟨⟨⟨Or.inr (fun k l q => ?_), popC_srt h1⟩, fun _ z k l q => ?_, by dsimp only; rw [oc]; exact h3, ?_, by dsimp only; omega, fun x hx => ?_⟩, rfl, by dsimp only; unfold isB at c2; omega⟩
            · have := popC_top q; omega
            · cases q
              have := r5.mpr (of_decide_eq_true z)
              omega
            · dsimp only
              rw [oc, List.length_cons, List.length_append]
              omega
            · rcases List.mem_cons.mp hx with z | z
              · rw [z]; exact Or.inl c2
              · exact popC_all h6 x z
      · rw [if_neg c2] at e
        by_cases c3 : 0 < opn ws
        · rw [if_pos c3] at e; cases e
        · rw [if_neg c3] at e; cases e
-- one step in the class
def XC (B : Nat → Nat) (n m d w : Nat) (Q : aQ) (X : aX) (I : zI) : Prop := stC B n m (.inl X.1) I ∧ CQ I d (setL Q.1 w X.2.1 X.2.2.2.2.2, Q.2) ∧ sgR I X.2.2.1 ∧ I 5 0 6 = nI (opn X.2.2.1) ∧ I 24 0 (opn X.2.2.1) = bI (cmT X.2.2.1) ∧ icB I X.2.2.1 ∧ I 5 0 7 = bI X.2.2.2.2.1
def XF (I : zI) : Prop := ∃ h o, h ≤ 72 ∧ o ≤ 8 ∧ I 5 0 5 = nI h ∧ I 5 0 6 = nI o
def xout (B : Nat → Nat) (n m d w : Nat) (Q : aQ) (r : (Nat × Nat) ⊕ ((Nat × List Int32 × Nat) ⊕ aX)) (I : zI) : Prop := match r with
  | .inl e => stC B n m (.inr e) I ∧ XF I
  | .inr (.inl _) => False
  | .inr (.inr X') => XC B n m d w Q X' I
abbrev rdY (B : Nat → Nat) (n m d w : Nat) (P : zP) : Prop := rdX B n m d P ∧ P 5 0 4 = 3 * d + w ∧ w < 3
theorem XC.law {B : Nat → Nat} {n m d w : Nat} {Q : aQ} {X : aX} {I : zI} (h : XC B n m d w Q X I) (hw : w < 3) : I 2 (3 * d + w) 2 = nI X.2.1.length ∧ X.2.1.length ≤ 64 ∧ ∀ j, j < X.2.1.length → I 16 (3 * d + w) j = X.2.1.getD j 0 := by
  have u := h.2.1.1.law hw
  rw [setL_w] at u
  exact ⟨u.2.1, u.1, u.2.2⟩
theorem p_readNot {K : zQ} {I : zI} {L : zJ} {P : zP} {B : Nat → Nat} {n m d w c0 i cnt : Nat} {Q : aQ} {cs : List Int32} {ws : List Nat} {mn : Bool} (hy : rdY B n m d w P) (hm : TKm B n m I) (hX : XC B n m d w Q (i, cs, ws, true, mn, cnt) I) (hI : XI c0 (i, cs, ws, true, mn, cnt)) (hk : kd B n i = 11) (hn : mn = true) (hK : ∀ I' : zI, frD d I I' → I' 9 d 12 = I 9 d 12 → TKm B n m I' → xout B n m d w Q (xst B n (i, cs, ws, true, mn, cnt)) I' → K [] (I', L, P)) : mX5_readNot K [rdR] (I, L, P) := by
  obtain ⟨⟨hE, n7, hP, d2⟩, hL, hw⟩ := hy
  have l72 := hI.l72
  obtain ⟨-, -, i3, i4, i5, i6⟩ := hI
  dsimp only at l72 i3 i4 i5 i6
  have xl := hX.law hw
  obtain ⟨x1, x2, x3, x4, x5, x6, x7⟩ := hX
  dsimp only at x1 x2 x3 x4 x5 x6 x7 xl
  have ol := opn_le ws
  have xe : xst B n (i, cs, ws, true, mn, cnt) = if cnt = 64 then .inl (2, i) else .inr (.inr (i + 1, cs, 11 :: ws, true, mn, cnt + 1)) := by
    unfold xst
    dsimp only
    rw [if_pos rfl, if_pos ⟨hk, hn⟩]
  rw [xe] at hK
  show bX5_readNot_0 K [some (.inr (.inr (5,0)))] [] (I, L, P)
  unfold bX5_readNot_0
  dsimp only [x_int, x_lng, x_ild, x_lld, x_ald, x_ist, x_ast, x_lst, x_inc, x_ii, x_id, x_i, x_ll, x_ld, x_l, x_cmp, x_i2l, x_l2i, x_if, x_ic, x_dup, x_pop, x_dup2, x_gI, x_gL, x_gR, x_g1, x_g0, x_gP, x_pI, x_pZ, x_pL, x_pP, x_al, x_as, x_all, x_asl, x_alr, x_len, x_cpy, x_m2, x_m1, x_m2l, x_m1l, x_call, x_cv, x_ri, x_rz, x_rl, x_rv, zg, zset, zbef, zlong, zcat, cond_true, cond_false, List.take, List.drop, rv1, rv2, rv3, rv4, rv5, rv6, rv7, sm0, sm1, bl0, bl1, bl2, bl3, bl4, bl5, bl6, bl7, bl8, List.nil_append, List.cons_append, List.length_cons, List.length_nil, Nat.reduceBEq, Nat.reduceAdd, Nat.reduceSub, ta, tb, tn0, tn1, tn2, tn3, tn4, tn5, tn6, tn7, tn8, tn9, tn10, tn11, tn12]
  refine p_countKnot (st := .inl i) (d := d) (w := w) (cnt := cnt) (Q := Q) (cs := cs) hP d2 i5 (fun _ _ => x2) x1 (fun I1 f1 c1 k1 => ?_)
  dsimp only [x_int, x_lng, x_ild, x_lld, x_ald, x_ist, x_ast, x_lst, x_inc, x_ii, x_id, x_i, x_ll, x_ld, x_l, x_cmp, x_i2l, x_l2i, x_if, x_ic, x_dup, x_pop, x_dup2, x_gI, x_gL, x_gR, x_g1, x_g0, x_gP, x_pI, x_pZ, x_pL, x_pP, x_al, x_as, x_all, x_asl, x_alr, x_len, x_cpy, x_m2, x_m1, x_m2l, x_m1l, x_call, x_cv, x_ri, x_rz, x_rl, x_rv, zg, zset, zbef, zlong, zcat, cond_true, cond_false, List.take, List.drop, rv1, rv2, rv3, rv4, rv5, rv6, rv7, sm0, sm1, bl0, bl1, bl2, bl3, bl4, bl5, bl6, bl7, bl8, List.nil_append, List.cons_append, List.length_cons, List.length_nil, Nat.reduceBEq, Nat.reduceAdd, Nat.reduceSub, ta, tb, tn0, tn1, tn2, tn3, tn4, tn5, tn6, tn7, tn8, tn9, tn10, tn11, tn12]
  have hh1 : I1 5 0 5 = nI ws.length := (f1 _ _ _ (by omega) (by unfold rdK; omega)).trans x3.1
  have m1 : TKm B n m I1 := hm.q (fun a c q => f1 _ _ _ (by omega) (by unfold rdK; omega))
  refine p_push (k := 11) (h0 := ws.length) hh1 l72 (fun j ej => ?_) c1 (fun I2 f2 g2 g3 => ?_)
  · by_cases z : cnt = 64
    · rw [show ckA cnt (.inl i) = .inr (2, i) from if_pos z] at ej; cases ej
    · omega
  have c2 : stC B n m (ckA cnt (.inl i)) I2 := c1.q (fun q => f2 _ _ _ (by omega) (by omega)) (f2 _ _ _ (by omega) (by decide)) (f2 _ _ _ (by omega) (by decide))
  have m2 : TKm B n m I2 := m1.q (fun a c q => f2 _ _ _ (by omega) (by omega))
  dsimp only [x_int, x_lng, x_ild, x_lld, x_ald, x_ist, x_ast, x_lst, x_inc, x_ii, x_id, x_i, x_ll, x_ld, x_l, x_cmp, x_i2l, x_l2i, x_if, x_ic, x_dup, x_pop, x_dup2, x_gI, x_gL, x_gR, x_g1, x_g0, x_gP, x_pI, x_pZ, x_pL, x_pP, x_al, x_as, x_all, x_asl, x_alr, x_len, x_cpy, x_m2, x_m1, x_m2l, x_m1l, x_call, x_cv, x_ri, x_rz, x_rl, x_rv, zg, zset, zbef, zlong, zcat, cond_true, cond_false, List.take, List.drop, rv1, rv2, rv3, rv4, rv5, rv6, rv7, sm0, sm1, bl0, bl1, bl2, bl3, bl4, bl5, bl6, bl7, bl8, List.nil_append, List.cons_append, List.length_cons, List.length_nil, Nat.reduceBEq, Nat.reduceAdd, Nat.reduceSub, ta, tb, tn0, tn1, tn2, tn3, tn4, tn5, tn6, tn7, tn8, tn9, tn10, tn11, tn12]
  refine p_tak (k := 11) hE n7 (by decide) m2 c2 (fun I3 f3 c3 => ?_)
  have al : ∀ a b c, ¬ (a = 9 ∧ b = d ∧ c = 11) → ¬ (a = 23 ∧ b = 0 ∧ c = ws.length) → ¬ (a = 5 ∧ b = 0 ∧ c = 5) → ¬ rdK a b c → I3 a b c = I a b c := fun a b c w1 w2 w3 w4 => by
    rw [f3 a b c w4, f2 a b c w2 w3, f1 a b c w1 w4]
  refine hK I3 (fun a b c z => al a b c (fun u => z (by unfold dK; omega)) (fun u => z (by unfold dK; omega)) (fun u => z (by unfold dK; omega)) (fun u => z (by unfold rdK at u; unfold dK; omega))) (al _ _ _ (by omega) (by omega) (by omega) (by unfold rdK; omega)) (m2.r f3) ?_
  by_cases z : cnt = 64
  · rw [show ckA cnt (.inl i) = .inr (2, i) from if_pos z] at c3 g3
    rw [if_pos z]
    have := g3 ⟨_, rfl⟩
    refine ⟨c3, ws.length, opn ws, l72, i3, ?_, ?_⟩
    · rw [f3 _ _ _ (by omega), this]; exact hh1
    · rw [al _ _ _ (by omega) (by omega) (by decide) (by unfold rdK; omega)]; exact x4
  · rw [show ckA cnt (.inl i) = .inl i from if_neg z] at c3 g2 k1
    rw [if_neg z]
    obtain ⟨y1, y2⟩ := g2 i rfl
    obtain ⟨y3, y4⟩ := k1 i rfl
    rw [show tkA B n 11 (.inl i) = .inl (i + 1) from if_pos hk] at c3
    refine ⟨c3, CQ_law hw x2 (fun a b c u1 u2 u3 => al a b c u1 (by omega) (by omega) (by unfold rdK; omega)) ?_ xl.2.1 ?_ (fun j hj => ?_), sgR_push x3 ?_ ?_ (fun c u => ?_), ?_, ?_, ⟨fun u => (by cases u), ?_⟩, ?_⟩
    · rw [f3 _ _ _ (by omega), f2 _ _ _ (by omega) (by omega)]; exact y3
    · rw [al _ _ _ (by omega) (by omega) (by omega) (by unfold rdK; omega)]; exact xl.1
    · rw [al _ _ _ (by omega) (by omega) (by omega) (by unfold rdK; omega)]; exact xl.2.2 j hj
    · rw [f3 _ _ _ (by omega)]; exact y1
    · rw [f3 _ _ _ (by omega)]; exact y2
    · rw [al _ _ _ (by omega) (by omega) (by omega) (by unfold rdK; omega)]
    · rw [al _ _ _ (by omega) (by omega) (by decide) (by unfold rdK; omega)]; exact x4
    · show I3 24 0 (opn ws) = bI (cmT ws)
      rw [al _ _ _ (by omega) (by omega) (by omega) (by unfold rdK; omega)]; exact x5
    · exact x6.q (o := opn ws) (Nat.le_refl _) (fun c _ => al _ _ _ (by omega) (by omega) (by omega) (by unfold rdK; omega))
    · rw [al _ _ _ (by omega) (by omega) (by decide) (by unfold rdK; omega)]; exact x7
