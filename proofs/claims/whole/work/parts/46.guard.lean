abbrev okN (n : Nat) (x : Int32) : Prop := 0 ≤ x ∧ x < nI n
abbrev okI (x a b : Int32) : Prop := a ≤ x ∧ x ≤ b
theorem ok_of {n : Nat} {x : Int32} (hn : n < 2147483648) (h : okN n x) : ∃ i, x = nI i ∧ i < n := n_of hn h.1 h.2
/-- the cells of the other side stay -/
def frX (I I' : zI) (L L' : zJ) : Prop := (∀ a b c, (a = 12 ∨ 51 ≤ a) → I' a b c = I a b c) ∧ ∀ a b c, (a = 12 ∨ 51 ≤ a) → L' a b c = L a b c
def frY (I I' : zI) : Prop := ∀ a b c, a ≤ 50 → ¬ a = 12 → I' a b c = I a b c
theorem frX.tr {I I1 I2 : zI} {L L1 L2 : zJ} (h : frX I I1 L L1) (h2 : frX I1 I2 L1 L2) : frX I I2 L L2 := ⟨fun a b c q => (h2.1 a b c q).trans (h.1 a b c q), fun a b c q => (h2.2 a b c q).trans (h.2 a b c q)⟩
theorem frX.rf {I : zI} {L : zJ} : frX I I L L := ⟨fun _ _ _ _ => rfl, fun _ _ _ _ => rfl⟩
theorem frY.rf {I : zI} : frY I I := fun _ _ _ _ _ => rfl
theorem frY.tr {I I1 I2 : zI} (h : frY I I1) (h2 : frY I1 I2) : frY I I2 := fun a b c q q2 => (h2 a b c q q2).trans (h a b c q q2)
theorem frQ.X {I I' : zI} {L L' : zJ} (h : frQ I I') (hL : zeL2 L L') : frX I I' L L' := ⟨fun a b c q => h a b c (by
    unfold scrC
    have e1 : (a == 8) = false := by simp; omega
    have e2 : Nat.ble a 40 = false ∨ Nat.ble 31 a = false := by
      rcases q with q | q
      · right; rw [q]; rfl
      · left
        cases e : Nat.ble a 40 with
        | false => rfl
        | true => rw [Nat.ble_eq] at e; omega
    have e3 : (Nat.ble 31 a && Nat.ble a 40) = false := by rcases e2 with e | e <;> simp [e]
    rw [e1, e3]
    simp only [Bool.or_false, Bool.false_and, Bool.false_or, Bool.or_eq_false_iff, beq_eq_false_iff_ne]
    omega), fun a b c q => hL a b c (by omega) (by omega)⟩
theorem frR.Y {I I' : zI} (h : frR I I') : frY I I' := fun a b c q q2 => h a b c (fun e => by
  have := e.2
  unfold scrR upH at this
  omega)
theorem RC.y {A : aA} {I I' : zI} {P : zP} (h : RC A I P) (hI : frY I I') : RC A I' P := by
  obtain ⟨t, h1, h2, h3, h4, h5, h6, h7, h8, h9⟩ := h
  have hcs : ∀ {a c : Nat}, csK a c = true → a ≤ 50 ∧ ¬ a = 12 := fun {a c} q => by
    unfold csK at q
    simp only [Bool.or_eq_true, Bool.and_eq_true, Nat.ble_eq, beq_iff_eq] at q
    omega
  refine ⟨t, ⟨h1.1.fr (fun a b c q => hI a b c ?_ ?_), h1.2.1, h1.2.2.1, fun x hx i hi => (hI 15 _ i (by decide) (by decide)).trans (h1.2.2.2.1 x hx i hi), ?_⟩, h2, h3.fr (fun a c q => hI a 0 c (hcs q).1 (hcs q).2), ?_, ?_, ?_, ?_, ?_, ?_⟩
  · unfold ctK at q
    simp only [Bool.or_eq_true, beq_iff_eq] at q
    omega
  · unfold ctK at q
    simp only [Bool.or_eq_true, beq_iff_eq] at q
    omega
  · rw [hI 9 t _ (by decide) (by decide), hI 9 t _ (by decide) (by decide)]; exact h1.2.2.2.2
  · revert h4
    unfold RCi
    have e : I' 11 0 14 = I 11 0 14 := hI 11 0 _ (by decide) (by decide)
    cases A.im with
    | none => intro h4; exact e.trans h4
    | some S => intro h4; exact ⟨e.trans h4.1, h4.2.1, h4.2.2.fr (fun a c q => hI a 1 c (hcs q).1 (hcs q).2)⟩
  · obtain ⟨g1, g2, g3⟩ := h5
    refine ⟨(hI 0 0 _ (by decide) (by decide)).trans g1, g2, fun i hi => ?_⟩
    have e : (fun q => I' 13 0 (4 * i + q)) = fun q => I 13 0 (4 * i + q) := by funext q; exact hI 13 0 _ (by decide) (by decide)
    rw [e]; exact g3 i hi
  · obtain ⟨g1, g2, g3, g4, g5⟩ := h6
    refine ⟨(hI 3 0 _ (by decide) (by decide)).trans g1, g2, (hI 3 0 _ (by decide) (by decide)).trans g3, g4, fun i hi => ?_⟩
    have := g5 i hi
    rw [hI 18 0 i (by decide) (by decide), hI 19 0 i (by decide) (by decide), hI 20 0 i (by decide) (by decide), hI 21 0 i (by decide) (by decide)]
    exact this
  · exact ⟨(hI 11 0 _ (by decide) (by decide)).trans h7.1, h7.2.1, fun i hi => by rw [hI 47 0 i (by decide) (by decide)]; exact h7.2.2 i hi⟩
  · exact ⟨(hI 5 0 _ (by decide) (by decide)).trans h8.1, (hI 5 0 _ (by decide) (by decide)).trans h8.2⟩
  · exact fun i hi => (hI 27 0 i (by decide) (by decide)).trans (h9 i hi)
theorem RR.x {A : aA} {I I' : zI} {L L' : zJ} (h : RR A I L) (hX : frX I I' L L') : RR A I' L' := by
  obtain ⟨hI, hL⟩ := hX
  obtain ⟨h1, h2, h3, h4, h5, h6, h7, h8, h9, h10, h11⟩ := h
  have l12 : ∀ c, I' 12 0 c = I 12 0 c := fun c => hI 12 0 c (Or.inl rfl)
  have hi : ∀ a c, 51 ≤ a → I' a 0 c = I a 0 c := fun a c q => hI a 0 c (Or.inr q)
  refine ⟨h1.fr (fun a c q => ?_), h2.fr (fun a c q => ?_), ?_, fun c hc => by rw [hi 83 c (by decide)]; exact h4 c hc, ⟨h5.1, (hL 12 0 _ (Or.inl rfl)).trans h5.2⟩, ?_, ⟨(l12 _).trans h7.1, fun i hi9 => (h7.2 i hi9).q (fun c => hi 91 c (by decide))⟩, ?_, ⟨(l12 _).trans h9.1, fun i hi9 => (hi 51 i (by decide)).trans (h9.2 i hi9)⟩, ⟨(l12 _).trans h10.1, (l12 _).trans h10.2⟩, fun i hi9 => (hi 52 i (by decide)).trans (h11 i hi9)⟩
  · refine hI a 0 c ?_
    unfold rtK at q
    simp only [Bool.or_eq_true, Bool.and_eq_true, Nat.ble_eq, beq_iff_eq] at q
    omega
  · refine hI a 0 c ?_
    unfold rsK at q
    simp only [Bool.or_eq_true, Bool.and_eq_true, Nat.ble_eq, beq_iff_eq] at q
    omega
  · obtain ⟨z1, z2, z3, z4, z5⟩ := h3
    exact ⟨(l12 _).trans z1, (l12 _).trans z2, (l12 _).trans z3, (l12 _).trans z4, (l12 _).trans z5⟩
  · revert h6
    unfold RRi
    have e93 : ∀ c, I' 93 0 c = I 93 0 c := fun c => hi 93 c (by decide)
    cases A.im with
    | none => intro h6; exact (l12 _).trans h6
    | some S =>
      intro h6
      simp only [l12, e93, hL 12 0 78 (Or.inl rfl)]
      exact ⟨h6.1, h6.2.1.q (fun c => hi 92 c (by decide)), h6.2.2⟩
  · obtain ⟨g1, g2, g3⟩ := h8
    refine ⟨(l12 _).trans g1, (l12 _).trans g2, fun i hi9 => ?_⟩
    have := g3 i hi9
    have e89 : ∀ c, I' 89 0 c = I 89 0 c := fun c => hi 89 c (by decide)
    rw [e89, e89, e89]
    exact this
theorem RC.b {A : aA} {I : zI} {P : zP} (h : RC A I P) : ∃ t, CT I t A.T ∧ P 11 0 11 = t ∧ P 8 0 0 = t ∧ CS I 0 A.T A.S := by
  obtain ⟨t, h1, h2, h3, -⟩ := h
  exact ⟨t, h1.1, h1.2.1, h2, h3⟩
theorem r_thr {A : aA} {I : zI} {L : zJ} (P : zP) (h : RR A I L) : ∃ I1, zsI (I, L, P) 12 0 2 0 = (I1, L, P) ∧ RR A I1 L ∧ frR I I1 := ⟨_, rfl, h.q frR_thrown (fun _ _ _ _ _ => rfl), frR_thrown⟩
abbrev kbR : zV := .inr (.inr (11, 0))
-- guards
theorem p_isHandC {K : zQ} {I : zI} {L : zJ} {P : zP} {t : Nat} {T : aT} {x : Int32} (hT : CT I t T) (h11 : P 11 0 11 = t) (h1 : okN (T.1 0) x → K [.inl 1] (I, L, P)) (h0 : ¬ okN (T.1 0) x → K [.inl 0] (I, L, P)) : mX11_isHand K [kbR, .inl x] (I, L, P) := by
  show bX11_isHand_0 K [some (.inr (.inr (11,0))), some (.inl x)] [] (I, L, P)
  unfold bX11_isHand_0
  dsimp only [x_int, x_lng, x_ild, x_lld, x_ald, x_ist, x_ast, x_lst, x_inc, x_ii, x_id, x_i, x_ll, x_ld, x_l, x_cmp, x_i2l, x_l2i, x_if, x_ic, x_dup, x_pop, x_dup2, x_gI, x_gL, x_gR, x_g1, x_g0, x_gP, x_pI, x_pZ, x_pL, x_pP, x_al, x_as, x_all, x_asl, x_alr, x_len, x_cpy, x_m2, x_m1, x_m2l, x_m1l, x_call, x_cv, x_ri, x_rz, x_rl, x_rv, zg, zset, zbef, zlong, zcat, cond_true, cond_false, List.take, List.drop, rv1, rv2, rv3, rv4, rv5, rv6, rv7, sm0, sm1, bl0, bl1, bl2, bl3, bl4, bl5, bl6, bl7, bl8, List.nil_append, List.cons_append, List.length_cons, List.length_nil, Nat.reduceBEq, Nat.reduceAdd, Nat.reduceSub, ta, tb, tn0, tn1, tn2, tn3, tn4, tn5, tn6, tn7, tn8, tn9, tn10, tn11, tn12, bX11_isHand_19, bX11_isHand_20]
  rw [h11, hT.2.1.1]
  refine ⟨fun c => ⟨Or.inl rfl, h0 (fun q => Int32.not_lt.mpr q.1 c)⟩, fun c => ⟨hT.1, fun d => ⟨Or.inl rfl, h0 (fun q => Int32.not_lt.mpr d q.2)⟩, fun d => ⟨Or.inr rfl, h1 ⟨Int32.not_lt.mp c, Int32.not_le.mp d⟩⟩⟩⟩
theorem p_isHandR {K : zQ} {I : zI} {L : zJ} {P : zP} {T : aT} {x : Int32} (hT : RT I T) (h1 : okN (T.1 0) x → K [.inl 1] (I, L, P)) (h0 : ¬ okN (T.1 0) x → K [.inl 0] (I, L, P)) : mX12_isHand K [refR, .inl x] (I, L, P) := by
  show bX12_isHand_0 K [some (.inr (.inr (12,0))), some (.inl x)] [] (I, L, P)
  unfold bX12_isHand_0
  dsimp only [x_int, x_lng, x_ild, x_lld, x_ald, x_ist, x_ast, x_lst, x_inc, x_ii, x_id, x_i, x_ll, x_ld, x_l, x_cmp, x_i2l, x_l2i, x_if, x_ic, x_dup, x_pop, x_dup2, x_gI, x_gL, x_gR, x_g1, x_g0, x_gP, x_pI, x_pZ, x_pL, x_pP, x_al, x_as, x_all, x_asl, x_alr, x_len, x_cpy, x_m2, x_m1, x_m2l, x_m1l, x_call, x_cv, x_ri, x_rz, x_rl, x_rv, zg, zset, zbef, zlong, zcat, cond_true, cond_false, List.take, List.drop, rv1, rv2, rv3, rv4, rv5, rv6, rv7, sm0, sm1, bl0, bl1, bl2, bl3, bl4, bl5, bl6, bl7, bl8, List.nil_append, List.cons_append, List.length_cons, List.length_nil, Nat.reduceBEq, Nat.reduceAdd, Nat.reduceSub, ta, tb, tn0, tn1, tn2, tn3, tn4, tn5, tn6, tn7, tn8, tn9, tn10, tn11, tn12, bX12_isHand_16, bX12_isHand_17]
  rw [hT.1.1]
  refine ⟨fun c => ⟨Or.inl rfl, h0 (fun q => Int32.not_lt.mpr q.1 c)⟩, fun c => ⟨fun d => ⟨Or.inl rfl, h0 (fun q => Int32.not_lt.mpr d q.2)⟩, fun d => ⟨Or.inr rfl, h1 ⟨Int32.not_lt.mp c, Int32.not_le.mp d⟩⟩⟩⟩
theorem p_isWoodC {K : zQ} {I : zI} {L : zJ} {P : zP} {t : Nat} {T : aT} {x : Int32} (hT : CT I t T) (h11 : P 11 0 11 = t) (h1 : okN (T.1 1) x → K [.inl 1] (I, L, P)) (h0 : ¬ okN (T.1 1) x → K [.inl 0] (I, L, P)) : mX11_isWood K [kbR, .inl x] (I, L, P) := by
  show bX11_isWood_0 K [some (.inr (.inr (11,0))), some (.inl x)] [] (I, L, P)
  unfold bX11_isWood_0
  dsimp only [x_int, x_lng, x_ild, x_lld, x_ald, x_ist, x_ast, x_lst, x_inc, x_ii, x_id, x_i, x_ll, x_ld, x_l, x_cmp, x_i2l, x_l2i, x_if, x_ic, x_dup, x_pop, x_dup2, x_gI, x_gL, x_gR, x_g1, x_g0, x_gP, x_pI, x_pZ, x_pL, x_pP, x_al, x_as, x_all, x_asl, x_alr, x_len, x_cpy, x_m2, x_m1, x_m2l, x_m1l, x_call, x_cv, x_ri, x_rz, x_rl, x_rv, zg, zset, zbef, zlong, zcat, cond_true, cond_false, List.take, List.drop, rv1, rv2, rv3, rv4, rv5, rv6, rv7, sm0, sm1, bl0, bl1, bl2, bl3, bl4, bl5, bl6, bl7, bl8, List.nil_append, List.cons_append, List.length_cons, List.length_nil, Nat.reduceBEq, Nat.reduceAdd, Nat.reduceSub, ta, tb, tn0, tn1, tn2, tn3, tn4, tn5, tn6, tn7, tn8, tn9, tn10, tn11, tn12, bX11_isWood_19, bX11_isWood_20]
  rw [h11, hT.2.1.2.1]
  refine ⟨fun c => ⟨Or.inl rfl, h0 (fun q => Int32.not_lt.mpr q.1 c)⟩, fun c => ⟨hT.1, fun d => ⟨Or.inl rfl, h0 (fun q => Int32.not_lt.mpr d q.2)⟩, fun d => ⟨Or.inr rfl, h1 ⟨Int32.not_lt.mp c, Int32.not_le.mp d⟩⟩⟩⟩
theorem p_isWoodR {K : zQ} {I : zI} {L : zJ} {P : zP} {T : aT} {x : Int32} (hT : RT I T) (h1 : okN (T.1 1) x → K [.inl 1] (I, L, P)) (h0 : ¬ okN (T.1 1) x → K [.inl 0] (I, L, P)) : mX12_isWood K [refR, .inl x] (I, L, P) := by
  show bX12_isWood_0 K [some (.inr (.inr (12,0))), some (.inl x)] [] (I, L, P)
  unfold bX12_isWood_0
  dsimp only [x_int, x_lng, x_ild, x_lld, x_ald, x_ist, x_ast, x_lst, x_inc, x_ii, x_id, x_i, x_ll, x_ld, x_l, x_cmp, x_i2l, x_l2i, x_if, x_ic, x_dup, x_pop, x_dup2, x_gI, x_gL, x_gR, x_g1, x_g0, x_gP, x_pI, x_pZ, x_pL, x_pP, x_al, x_as, x_all, x_asl, x_alr, x_len, x_cpy, x_m2, x_m1, x_m2l, x_m1l, x_call, x_cv, x_ri, x_rz, x_rl, x_rv, zg, zset, zbef, zlong, zcat, cond_true, cond_false, List.take, List.drop, rv1, rv2, rv3, rv4, rv5, rv6, rv7, sm0, sm1, bl0, bl1, bl2, bl3, bl4, bl5, bl6, bl7, bl8, List.nil_append, List.cons_append, List.length_cons, List.length_nil, Nat.reduceBEq, Nat.reduceAdd, Nat.reduceSub, ta, tb, tn0, tn1, tn2, tn3, tn4, tn5, tn6, tn7, tn8, tn9, tn10, tn11, tn12, bX12_isWood_16, bX12_isWood_17]
  rw [hT.1.2.1]
  refine ⟨fun c => ⟨Or.inl rfl, h0 (fun q => Int32.not_lt.mpr q.1 c)⟩, fun c => ⟨fun d => ⟨Or.inl rfl, h0 (fun q => Int32.not_lt.mpr d q.2)⟩, fun d => ⟨Or.inr rfl, h1 ⟨Int32.not_lt.mp c, Int32.not_le.mp d⟩⟩⟩⟩
theorem p_isRapC {K : zQ} {I : zI} {L : zJ} {P : zP} {t : Nat} {T : aT} {x : Int32} (hT : CT I t T) (h11 : P 11 0 11 = t) (h1 : okN (T.1 2) x → K [.inl 1] (I, L, P)) (h0 : ¬ okN (T.1 2) x → K [.inl 0] (I, L, P)) : mX11_isRap K [kbR, .inl x] (I, L, P) := by
  show bX11_isRap_0 K [some (.inr (.inr (11,0))), some (.inl x)] [] (I, L, P)
  unfold bX11_isRap_0
  dsimp only [x_int, x_lng, x_ild, x_lld, x_ald, x_ist, x_ast, x_lst, x_inc, x_ii, x_id, x_i, x_ll, x_ld, x_l, x_cmp, x_i2l, x_l2i, x_if, x_ic, x_dup, x_pop, x_dup2, x_gI, x_gL, x_gR, x_g1, x_g0, x_gP, x_pI, x_pZ, x_pL, x_pP, x_al, x_as, x_all, x_asl, x_alr, x_len, x_cpy, x_m2, x_m1, x_m2l, x_m1l, x_call, x_cv, x_ri, x_rz, x_rl, x_rv, zg, zset, zbef, zlong, zcat, cond_true, cond_false, List.take, List.drop, rv1, rv2, rv3, rv4, rv5, rv6, rv7, sm0, sm1, bl0, bl1, bl2, bl3, bl4, bl5, bl6, bl7, bl8, List.nil_append, List.cons_append, List.length_cons, List.length_nil, Nat.reduceBEq, Nat.reduceAdd, Nat.reduceSub, ta, tb, tn0, tn1, tn2, tn3, tn4, tn5, tn6, tn7, tn8, tn9, tn10, tn11, tn12, bX11_isRap_19, bX11_isRap_20]
  rw [h11, hT.2.1.2.2]
  refine ⟨fun c => ⟨Or.inl rfl, h0 (fun q => Int32.not_lt.mpr q.1 c)⟩, fun c => ⟨hT.1, fun d => ⟨Or.inl rfl, h0 (fun q => Int32.not_lt.mpr d q.2)⟩, fun d => ⟨Or.inr rfl, h1 ⟨Int32.not_lt.mp c, Int32.not_le.mp d⟩⟩⟩⟩
theorem p_isRapR {K : zQ} {I : zI} {L : zJ} {P : zP} {T : aT} {x : Int32} (hT : RT I T) (h1 : okN (T.1 2) x → K [.inl 1] (I, L, P)) (h0 : ¬ okN (T.1 2) x → K [.inl 0] (I, L, P)) : mX12_isRap K [refR, .inl x] (I, L, P) := by
  show bX12_isRap_0 K [some (.inr (.inr (12,0))), some (.inl x)] [] (I, L, P)
  unfold bX12_isRap_0
  dsimp only [x_int, x_lng, x_ild, x_lld, x_ald, x_ist, x_ast, x_lst, x_inc, x_ii, x_id, x_i, x_ll, x_ld, x_l, x_cmp, x_i2l, x_l2i, x_if, x_ic, x_dup, x_pop, x_dup2, x_gI, x_gL, x_gR, x_g1, x_g0, x_gP, x_pI, x_pZ, x_pL, x_pP, x_al, x_as, x_all, x_asl, x_alr, x_len, x_cpy, x_m2, x_m1, x_m2l, x_m1l, x_call, x_cv, x_ri, x_rz, x_rl, x_rv, zg, zset, zbef, zlong, zcat, cond_true, cond_false, List.take, List.drop, rv1, rv2, rv3, rv4, rv5, rv6, rv7, sm0, sm1, bl0, bl1, bl2, bl3, bl4, bl5, bl6, bl7, bl8, List.nil_append, List.cons_append, List.length_cons, List.length_nil, Nat.reduceBEq, Nat.reduceAdd, Nat.reduceSub, ta, tb, tn0, tn1, tn2, tn3, tn4, tn5, tn6, tn7, tn8, tn9, tn10, tn11, tn12, bX12_isRap_16, bX12_isRap_17]
  rw [hT.1.2.2]
  refine ⟨fun c => ⟨Or.inl rfl, h0 (fun q => Int32.not_lt.mpr q.1 c)⟩, fun c => ⟨fun d => ⟨Or.inl rfl, h0 (fun q => Int32.not_lt.mpr d q.2)⟩, fun d => ⟨Or.inr rfl, h1 ⟨Int32.not_lt.mp c, Int32.not_le.mp d⟩⟩⟩⟩
theorem p_isSpan {K : zQ} {M : zM} {x : Int32} (h1 : okI x 0 99 → K [.inl 1] M) (h0 : ¬ okI x 0 99 → K [.inl 0] M) : mX11_isSpan K [.inl x] M := by
  show bX11_isSpan_0 K [some (.inl x)] [] M
  unfold bX11_isSpan_0
  dsimp only [x_int, x_lng, x_ild, x_lld, x_ald, x_ist, x_ast, x_lst, x_inc, x_ii, x_id, x_i, x_ll, x_ld, x_l, x_cmp, x_i2l, x_l2i, x_if, x_ic, x_dup, x_pop, x_dup2, x_gI, x_gL, x_gR, x_g1, x_g0, x_gP, x_pI, x_pZ, x_pL, x_pP, x_al, x_as, x_all, x_asl, x_alr, x_len, x_cpy, x_m2, x_m1, x_m2l, x_m1l, x_call, x_cv, x_ri, x_rz, x_rl, x_rv, zg, zset, zbef, zlong, zcat, cond_true, cond_false, List.take, List.drop, rv1, rv2, rv3, rv4, rv5, rv6, rv7, sm0, sm1, bl0, bl1, bl2, bl3, bl4, bl5, bl6, bl7, bl8, List.nil_append, List.cons_append, List.length_cons, List.length_nil, Nat.reduceBEq, Nat.reduceAdd, Nat.reduceSub, ta, tb, tn0, tn1, tn2, tn3, tn4, tn5, tn6, tn7, tn8, tn9, tn10, tn11, tn12, bX11_isSpan_14, bX11_isSpan_15]
  exact ⟨fun c => ⟨Or.inl rfl, h0 (fun q => Int32.not_lt.mpr q.1 c)⟩, fun c => ⟨fun d => ⟨Or.inl rfl, h0 (fun q => Int32.not_lt.mpr q.2 d)⟩, fun d => ⟨Or.inr rfl, h1 ⟨Int32.not_lt.mp c, Int32.not_lt.mp d⟩⟩⟩⟩
theorem p_isIn {K : zQ} {M : zM} {x a b : Int32} (h1 : okI x a b → K [.inl 1] M) (h0 : ¬ okI x a b → K [.inl 0] M) : mX12_isIn K [.inl x, .inl a, .inl b] M := by
  show bX12_isIn_0 K [some (.inl x), some (.inl a), some (.inl b)] [] M
  unfold bX12_isIn_0
  dsimp only [x_int, x_lng, x_ild, x_lld, x_ald, x_ist, x_ast, x_lst, x_inc, x_ii, x_id, x_i, x_ll, x_ld, x_l, x_cmp, x_i2l, x_l2i, x_if, x_ic, x_dup, x_pop, x_dup2, x_gI, x_gL, x_gR, x_g1, x_g0, x_gP, x_pI, x_pZ, x_pL, x_pP, x_al, x_as, x_all, x_asl, x_alr, x_len, x_cpy, x_m2, x_m1, x_m2l, x_m1l, x_call, x_cv, x_ri, x_rz, x_rl, x_rv, zg, zset, zbef, zlong, zcat, cond_true, cond_false, List.take, List.drop, rv1, rv2, rv3, rv4, rv5, rv6, rv7, sm0, sm1, bl0, bl1, bl2, bl3, bl4, bl5, bl6, bl7, bl8, List.nil_append, List.cons_append, List.length_cons, List.length_nil, Nat.reduceBEq, Nat.reduceAdd, Nat.reduceSub, ta, tb, tn0, tn1, tn2, tn3, tn4, tn5, tn6, tn7, tn8, tn9, tn10, tn11, tn12, bX12_isIn_14, bX12_isIn_15]
  exact ⟨fun c => ⟨Or.inl rfl, h0 (fun q => Int32.not_lt.mpr q.1 c)⟩, fun c => ⟨fun d => ⟨Or.inl rfl, h0 (fun q => Int32.not_lt.mpr q.2 d)⟩, fun d => ⟨Or.inr rfl, h1 ⟨Int32.not_lt.mp c, Int32.not_lt.mp d⟩⟩⟩⟩
