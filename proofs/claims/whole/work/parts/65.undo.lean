-- pieces of the relation, one by one
theorem RCt.e {T : aT} {I I' : zI} {P P' : zP} {t : Nat} (h : RCt T I P t) (hI : ∀ a b c, (ctK a = true ∨ a = 15) → I' a b c = I a b c) (hP : ∀ c, P' 11 0 c = P 11 0 c) : RCt T I' P' t := by
  obtain ⟨h1, h2, h3, h4, h5⟩ := h
  refine ⟨h1.fr (fun a b c q => hI a b c (Or.inl q)), (hP _).trans h2, (hP _).trans h3, fun x hx i hi => (hI 15 _ i (Or.inr rfl)).trans (h4 x hx i hi), ?_⟩
  rw [hI 9 t _ (Or.inl rfl), hI 9 t _ (Or.inl rfl)]; exact h5
theorem RCi.e {T : aT} {im : Option aS} {I I' : zI} {P P' : zP} {t : Nat} (h : RCi T im I P t) (h1 : I' 11 0 14 = I 11 0 14) (h2 : ∀ a c, csK a c = true → I' a 1 c = I a 1 c) (h3 : P' 8 1 0 = P 8 1 0) : RCi T im I' P' t := by
  revert h
  unfold RCi
  cases im with
  | none => intro h; exact h1.trans h
  | some S => intro h; exact ⟨h1.trans h.1, h3.trans h.2.1, h.2.2.fr h2⟩
theorem RCo.e {T : aT} {O : aH} {lm : Int32} {I I' : zI} (h : RCo T O lm I) (hI : ∀ a c, (a = 3 ∨ a = 18 ∨ a = 19 ∨ a = 20 ∨ a = 21) → I' a 0 c = I a 0 c) : RCo T O lm I' := by
  obtain ⟨g1, g2, g3, g4, g5⟩ := h
  refine ⟨(hI 3 _ (by omega)).trans g1, g2, (hI 3 _ (by omega)).trans g3, g4, fun i hi => ?_⟩
  have := g5 i hi
  rw [hI 18 i (by omega), hI 19 i (by omega), hI 20 i (by omega), hI 21 i (by omega)]
  exact this
theorem RCp.e {tp : Nat × (Nat → Int32)} {I I' : zI} (h : RCp tp I) (h1 : I' 11 0 13 = I 11 0 13) (h2 : ∀ c, I' 47 0 c = I 47 0 c) : RCp tp I' := ⟨h1.trans h.1, h.2.1, fun i hi => by rw [h2]; exact h.2.2 i hi⟩
theorem RRi.e {T : aT} {im : Option aS} {I I' : zI} {L L' : zJ} (h : RRi T im I L) (h1 : I' 12 0 75 = I 12 0 75) (h2 : ∀ a c, (a = 92 ∨ a = 93) → I' a 0 c = I a 0 c) (h3 : L' 12 0 78 = L 12 0 78) : RRi T im I' L' := by
  revert h
  unfold RRi
  cases im with
  | none => intro h; exact h1.trans h
  | some S =>
    intro h
    simp only [h1, h3, h2 93 _ (Or.inr rfl)]
    exact ⟨h.1, h.2.1.q (fun c => h2 92 c (Or.inl rfl)), h.2.2⟩
theorem RRo.e {O : aH} {lm : Int32} {I I' : zI} (h : RRo O lm I) (h1 : I' 12 0 69 = I 12 0 69) (h2 : I' 12 0 70 = I 12 0 70) (h3 : ∀ c, I' 89 0 c = I 89 0 c) : RRo O lm I' := by
  obtain ⟨g1, g2, g3⟩ := h
  refine ⟨h1.trans g1, h2.trans g2, fun i hi => ?_⟩
  have := g3 i hi
  rw [h3, h3, h3]
  exact this
-- plane
theorem bsB_or2 {p q : Nat → Bool} {n : Nat} (hn : n ≤ 10) : nI (bsB p n) ||| nI (bsB q n) = nI (bsB (fun r => p r || q r) n) := by
  have hb : ∀ (f : Nat → Bool) (i : Nat), i < 32 → (nI (bsB f n)).toBitVec.getLsbD i = (decide (i < n) && f i) := fun f i hi => by
    show (BitVec.ofNat 32 (bsB f n)).getLsbD i = _
    rw [BitVec.getLsbD_ofNat, bsB_bit]
    simp [hi]
  apply Int32.toBitVec_inj.mp
  rw [Int32.toBitVec_or]
  apply BitVec.eq_of_getLsbD_eq
  intro i hi
  rw [BitVec.getLsbD_or, hb p i hi, hb q i hi, hb _ i hi]
  by_cases h : i < n <;> simp [h]
def pln7 (S : aS) (w : Int32) : aS := fun f i => if f = 7 ∧ aFresh S w i = true then 1 else S f i
theorem pln7_o {S : aS} {w : Int32} {f i : Nat} (h : ¬ f = 7) : pln7 S w f i = S f i := if_neg (fun z => h z.1)
theorem aFresh_n7 {S : aS} {w : Int32} {i : Nat} (h : aFresh S w i = true) : ¬ S 5 i = 0 ∧ ¬ S 7 i = 1 ∧ S 3 i = w := of_decide_eq_true h
def s_plane (A : aA) (w : Int32) : aA × Int32 := if okN (A.T.1 1) w then (updA A (pln7 A.S w) (push A.U A.S), nI (zcount (aFresh A.S w) (A.T.1 2))) else (A, -1)
theorem c_plane {K : zQ} {I : zI} {L : zJ} {P : zP} {A : aA} {w : Int32} (wQ : WQ A.T A.S) (hC : RC A I P) (hK : ∀ (I' : zI), RC (s_plane A w).1 I' P → frX I I' L L → K [.inl (s_plane A w).2] (I', L, P)) : mX11_plane K [kbR, .inl w] (I, L, P) := by
  obtain ⟨t, hT, h11, h8, hS⟩ := hC.b
  have r10 := hT.r10
  unfold s_plane at hK
  show bX11_plane_0 K [some (.inr (.inr (11,0))), some (.inl w), none] [] (I, L, P)
  unfold bX11_plane_0
  dsimp only [x_int, x_lng, x_ild, x_lld, x_ald, x_ist, x_ast, x_lst, x_inc, x_ii, x_id, x_i, x_ll, x_ld, x_l, x_cmp, x_i2l, x_l2i, x_if, x_ic, x_dup, x_pop, x_dup2, x_gI, x_gL, x_gR, x_g1, x_g0, x_gP, x_pI, x_pZ, x_pL, x_pP, x_al, x_as, x_all, x_asl, x_alr, x_len, x_cpy, x_m2, x_m1, x_m2l, x_m1l, x_call, x_cv, x_ri, x_rz, x_rl, x_rv, zg, zset, zbef, zlong, zcat, cond_true, cond_false, List.take, List.drop, rv1, rv2, rv3, rv4, rv5, rv6, rv7, sm0, sm1, bl0, bl1, bl2, bl3, bl4, bl5, bl6, bl7, bl8, List.nil_append, List.cons_append, List.length_cons, List.length_nil, Nat.reduceBEq, Nat.reduceAdd, Nat.reduceSub, ta, tb, tn0, tn1, tn2, tn3, tn4, tn5, tn6, tn7, tn8, tn9, tn10, tn11, tn12]
  refine p_isWoodC hT h11 (fun ok => ?_) (fun no => ⟨fun _ => by rw [if_neg no] at hK; exact hK I hC frX.rf, fun z => absurd rfl z⟩)
  rw [if_pos ok] at hK
  dsimp only [x_int, x_lng, x_ild, x_lld, x_ald, x_ist, x_ast, x_lst, x_inc, x_ii, x_id, x_i, x_ll, x_ld, x_l, x_cmp, x_i2l, x_l2i, x_if, x_ic, x_dup, x_pop, x_dup2, x_gI, x_gL, x_gR, x_g1, x_g0, x_gP, x_pI, x_pZ, x_pL, x_pP, x_al, x_as, x_all, x_asl, x_alr, x_len, x_cpy, x_m2, x_m1, x_m2l, x_m1l, x_call, x_cv, x_ri, x_rz, x_rl, x_rv, zg, zset, zbef, zlong, zcat, cond_true, cond_false, List.take, List.drop, rv1, rv2, rv3, rv4, rv5, rv6, rv7, sm0, sm1, bl0, bl1, bl2, bl3, bl4, bl5, bl6, bl7, bl8, List.nil_append, List.cons_append, List.length_cons, List.length_nil, Nat.reduceBEq, Nat.reduceAdd, Nat.reduceSub, ta, tb, tn0, tn1, tn2, tn3, tn4, tn5, tn6, tn7, tn8, tn9, tn10, tn11, tn12]
  refine ⟨fun z => absurd z (by decide), fun _ => p_freshOn h8 hT hS ?_⟩
  dsimp only [x_int, x_lng, x_ild, x_lld, x_ald, x_ist, x_ast, x_lst, x_inc, x_ii, x_id, x_i, x_ll, x_ld, x_l, x_cmp, x_i2l, x_l2i, x_if, x_ic, x_dup, x_pop, x_dup2, x_gI, x_gL, x_gR, x_g1, x_g0, x_gP, x_pI, x_pZ, x_pL, x_pP, x_al, x_as, x_all, x_asl, x_alr, x_len, x_cpy, x_m2, x_m1, x_m2l, x_m1l, x_call, x_cv, x_ri, x_rz, x_rl, x_rv, zg, zset, zbef, zlong, zcat, cond_true, cond_false, List.take, List.drop, rv1, rv2, rv3, rv4, rv5, rv6, rv7, sm0, sm1, bl0, bl1, bl2, bl3, bl4, bl5, bl6, bl7, bl8, List.nil_append, List.cons_append, List.length_cons, List.length_nil, Nat.reduceBEq, Nat.reduceAdd, Nat.reduceSub, ta, tb, tn0, tn1, tn2, tn3, tn4, tn5, tn6, tn7, tn8, tn9, tn10, tn11, tn12]
  have hD : RCd A.T A.S A.U I := by obtain ⟨t, -, -, -, -, hD, -⟩ := hC; exact hD
  refine p_add (S' := pln7 A.S w) (d := fun q => match q with
    | 0 => 3
    | 1 => w
    | 2 => nI (bsB (aFresh A.S w) (A.T.1 2))
    | _ => 0) hD (Or.inr (Or.inr (Or.inr ⟨rfl, aFresh A.S w, rfl, fun r hr h => if_pos ⟨rfl, h⟩, ?_⟩))) (fun I2 f2 hD2 => ?_)
  · refine ⟨fun h _ => ?_, fun h _ => ?_, fun r hr => ⟨?_, ?_, ?_⟩⟩
    · dsimp only; rw [if_neg (by simp), pln7_o (by decide)]
    · dsimp only; rw [if_neg (by simp), pln7_o (by decide)]
    · dsimp only; rw [if_neg (by simp), pln7_o (by decide)]
    · dsimp only; rw [if_neg (by simp), pln7_o (by decide)]
    · dsimp only
      by_cases z : aFresh A.S w r = true
      · rw [if_pos ⟨rfl, z⟩]
        exact (wQ r hr).2.resolve_right (aFresh_n7 z).2.1
      · rw [if_neg (fun e => z e.2)]
        exact (if_neg (fun e => z e.2)).symm
  · have s7 : I2 8 0 17 = nI (bsum (A.S 7) (A.T.1 2)) := (f2.lo (by omega)).trans hS.2.2.2.2.2.2.2
    dsimp only [x_int, x_lng, x_ild, x_lld, x_ald, x_ist, x_ast, x_lst, x_inc, x_ii, x_id, x_i, x_ll, x_ld, x_l, x_cmp, x_i2l, x_l2i, x_if, x_ic, x_dup, x_pop, x_dup2, x_gI, x_gL, x_gR, x_g1, x_g0, x_gP, x_pI, x_pZ, x_pL, x_pP, x_al, x_as, x_all, x_asl, x_alr, x_len, x_cpy, x_m2, x_m1, x_m2l, x_m1l, x_call, x_cv, x_ri, x_rz, x_rl, x_rv, zg, zset, zbef, zlong, zcat, cond_true, cond_false, List.take, List.drop, rv1, rv2, rv3, rv4, rv5, rv6, rv7, sm0, sm1, bl0, bl1, bl2, bl3, bl4, bl5, bl6, bl7, bl8, List.nil_append, List.cons_append, List.length_cons, List.length_nil, Nat.reduceBEq, Nat.reduceAdd, Nat.reduceSub, ta, tb, tn0, tn1, tn2, tn3, tn4, tn5, tn6, tn7, tn8, tn9, tn10, tn11, tn12]
    refine p_bitCount ?_
    dsimp only [x_int, x_lng, x_ild, x_lld, x_ald, x_ist, x_ast, x_lst, x_inc, x_ii, x_id, x_i, x_ll, x_ld, x_l, x_cmp, x_i2l, x_l2i, x_if, x_ic, x_dup, x_pop, x_dup2, x_gI, x_gL, x_gR, x_g1, x_g0, x_gP, x_pI, x_pZ, x_pL, x_pP, x_al, x_as, x_all, x_asl, x_alr, x_len, x_cpy, x_m2, x_m1, x_m2l, x_m1l, x_call, x_cv, x_ri, x_rz, x_rl, x_rv, zg, zset, zbef, zlong, zcat, cond_true, cond_false, List.take, List.drop, rv1, rv2, rv3, rv4, rv5, rv6, rv7, sm0, sm1, bl0, bl1, bl2, bl3, bl4, bl5, bl6, bl7, bl8, List.nil_append, List.cons_append, List.length_cons, List.length_nil, Nat.reduceBEq, Nat.reduceAdd, Nat.reduceSub, ta, tb, tn0, tn1, tn2, tn3, tn4, tn5, tn6, tn7, tn8, tn9, tn10, tn11, tn12]
    rw [bsB_pop _ r10, s7, bsB_sum, bsB_or2 r10]
    have e7 : bsum (pln7 A.S w 7) (A.T.1 2) = bsB (fun r => decide (A.S 7 r = 1) || aFresh A.S w r) (A.T.1 2) := by
      rw [bsB_sum]
      refine bsB_congr (fun i _ => ?_)
      by_cases z : aFresh A.S w i = true
      · have : pln7 A.S w 7 i = 1 := if_pos ⟨rfl, z⟩
        simp [this, z]
      · have : pln7 A.S w 7 i = A.S 7 i := if_neg (fun e => z e.2)
        simp [this, z]
    obtain ⟨q1, q2⟩ := RC.mk1 (I3 := (zsI (I2, L, P) 8 0 17 (nI (bsB (fun r => decide (A.S 7 r = 1) || aFresh A.S w r) (A.T.1 2)))).1) (L := L) hC f2 hD2 (fun a b c q => if_neg (fun z => q ⟨z.2.1, by omega⟩)) (fun y hy => by rw [zs_r (by omega), pln7_o (by decide)]; exact (f2.lo (by omega)).trans (hS.1 y hy).1) (fun y hy => by rw [zs_r (by omega), pln7_o (by decide)]; exact (f2.lo (by omega)).trans (hS.2.1 y hy).2) (fun y hy => by
      obtain ⟨c1, c2, -⟩ := hS.2.2.1 y hy
      rw [zs_r (by omega), zs_r (by omega), pln7_o (by decide), pln7_o (by decide)]; exact ⟨(f2.lo (by omega)).trans c1, (f2.lo (by omega)).trans c2⟩) (by rw [zs_h ⟨rfl, rfl⟩, e7]) (fun f i q => pln7_o (fun z => q (by omega)))
    exact hK _ q1 q2
theorem r_plane {K : zQ} {I : zI} {L : zJ} {P : zP} {A : aA} {w : Int32} (hu : A.U.1 ≤ 20) (wQ : WQ A.T A.S) (hR : RR A I L) (hK : ∀ (I' : zI), RR (s_plane A w).1 I' L → frY I I' → K [.inl (s_plane A w).2] (I', L, P)) : mX12_plane K [refR, .inl w] (I, L, P) := by
  show bX12_plane_0 K [some (.inr (.inr (12,0))), some (.inl w), none, none] [] (I, L, P)
  unfold bX12_plane_0
  obtain ⟨I1, e9, hR1, f1⟩ := r_thr P hR
  dsimp only [x_ald, x_int, x_pI, zg, Nat.reduceBEq, cond_true]
  rw [e9]
  have hT := hR1.1
  have hS := hR1.2.1
  have hp := hR1.2.2.1
  have h6 := hT.h6
  have r10 := hT.r10
  unfold s_plane at hK
  dsimp only [x_int, x_lng, x_ild, x_lld, x_ald, x_ist, x_ast, x_lst, x_inc, x_ii, x_id, x_i, x_ll, x_ld, x_l, x_cmp, x_i2l, x_l2i, x_if, x_ic, x_dup, x_pop, x_dup2, x_gI, x_gL, x_gR, x_g1, x_g0, x_gP, x_pI, x_pZ, x_pL, x_pP, x_al, x_as, x_all, x_asl, x_alr, x_len, x_cpy, x_m2, x_m1, x_m2l, x_m1l, x_call, x_cv, x_ri, x_rz, x_rl, x_rv, zg, zset, zbef, zlong, zcat, cond_true, cond_false, List.take, List.drop, rv1, rv2, rv3, rv4, rv5, rv6, rv7, sm0, sm1, bl0, bl1, bl2, bl3, bl4, bl5, bl6, bl7, bl8, List.nil_append, List.cons_append, List.length_cons, List.length_nil, Nat.reduceBEq, Nat.reduceAdd, Nat.reduceSub, ta, tb, tn0, tn1, tn2, tn3, tn4, tn5, tn6, tn7, tn8, tn9, tn10, tn11, tn12]
  refine p_isWoodR hT (fun ok => ?_) (fun no => ⟨fun _ => by rw [if_neg no] at hK; exact hK I1 hR1 f1.Y, fun z => absurd rfl z⟩)
  rw [if_pos ok] at hK
  dsimp only [x_int, x_lng, x_ild, x_lld, x_ald, x_ist, x_ast, x_lst, x_inc, x_ii, x_id, x_i, x_ll, x_ld, x_l, x_cmp, x_i2l, x_l2i, x_if, x_ic, x_dup, x_pop, x_dup2, x_gI, x_gL, x_gR, x_g1, x_g0, x_gP, x_pI, x_pZ, x_pL, x_pP, x_al, x_as, x_all, x_asl, x_alr, x_len, x_cpy, x_m2, x_m1, x_m2l, x_m1l, x_call, x_cv, x_ri, x_rz, x_rl, x_rv, zg, zset, zbef, zlong, zcat, cond_true, cond_false, List.take, List.drop, rv1, rv2, rv3, rv4, rv5, rv6, rv7, sm0, sm1, bl0, bl1, bl2, bl3, bl4, bl5, bl6, bl7, bl8, List.nil_append, List.cons_append, List.length_cons, List.length_nil, Nat.reduceBEq, Nat.reduceAdd, Nat.reduceSub, ta, tb, tn0, tn1, tn2, tn3, tn4, tn5, tn6, tn7, tn8, tn9, tn10, tn11, tn12]
  refine ⟨fun z => absurd z (by decide), fun _ => p_remember hu hR1 (fun I2 f2 u2 sn => ?_)⟩
  dsimp only [x_int, x_lng, x_ild, x_lld, x_ald, x_ist, x_ast, x_lst, x_inc, x_ii, x_id, x_i, x_ll, x_ld, x_l, x_cmp, x_i2l, x_l2i, x_if, x_ic, x_dup, x_pop, x_dup2, x_gI, x_gL, x_gR, x_g1, x_g0, x_gP, x_pI, x_pZ, x_pL, x_pP, x_al, x_as, x_all, x_asl, x_alr, x_len, x_cpy, x_m2, x_m1, x_m2l, x_m1l, x_call, x_cv, x_ri, x_rz, x_rl, x_rv, zg, zset, zbef, zlong, zcat, cond_true, cond_false, List.take, List.drop, rv1, rv2, rv3, rv4, rv5, rv6, rv7, sm0, sm1, bl0, bl1, bl2, bl3, bl4, bl5, bl6, bl7, bl8, List.nil_append, List.cons_append, List.length_cons, List.length_nil, Nat.reduceBEq, Nat.reduceAdd, Nat.reduceSub, ta, tb, tn0, tn1, tn2, tn3, tn4, tn5, tn6, tn7, tn8, tn9, tn10, tn11, tn12]
  have hb : ∀ i, i < A.T.1 2 → I2 79 0 i = A.S 3 i ∧ I2 81 0 i = A.S 5 i ∧ I2 83 0 i = A.S 7 i ∧ I2 80 0 i = A.S 4 i := fun i hi => by
    obtain ⟨b1, b2, b3, b4, b5, -⟩ := hS.2.2.1 i hi
    rw [show 10 * 0 + i = i by omega] at b1 b2 b3 b5
    exact ⟨(f2.lo (by omega)).trans b1, (f2.lo (by omega)).trans b3, (f2.lo (by omega)).trans b5, (f2.lo (by omega)).trans b2⟩
  refine zinv (A.T.1 2) (fun i Z M => ∃ I' : zI, Z = [some refR, some (.inl w), some (.inl (nI (zcount (aFresh A.S w) i))), some (.inl (nI i))] ∧ M = (I', L, P) ∧ ony (fun a c => a = 83) I2 I' ∧ (∀ c, c < i → I' 83 0 c = pln7 A.S w 7 c) ∧ ∀ c, i ≤ c → I' 83 0 c = I2 83 0 c) ?_ ?_ ⟨I2, rfl, rfl, ony.rf, fun c hc => absurd hc (by omega), fun _ _ => rfl⟩
  · rintro i Z M hi ⟨I', rfl, rfl, hI, hlo, hhi⟩ self hself
    obtain ⟨b3, b5, b7, -⟩ := hb i hi
    have zi : zin (nI i) 20 := n_zin (by omega) (by decide)
    have e3 : I' 79 0 i = A.S 3 i := (hI.lo (by omega)).trans b3
    have e5 : I' 81 0 i = A.S 5 i := (hI.lo (by omega)).trans b5
    have e7 : I' 83 0 i = A.S 7 i := (hhi i (by omega)).trans b7
    have hcn : I' 12 0 14 = nI (A.T.1 2) := ((hI.lo (by omega)).trans (f2.lo (by decide))).trans hT.1.2.2
    have skip : ¬ aFresh A.S w i = true → self [some refR, some (.inl w), some (.inl (nI (zcount (aFresh A.S w) i))), some (.inl (nI (i + 1)))] [] (I', L, P) := fun z => by
      refine hself _ _ ⟨I', ?_, rfl, hI, fun c hc => ?_, fun c hc => hhi c (by omega)⟩
      · have : zcount (aFresh A.S w) (i + 1) = zcount (aFresh A.S w) i := by
          show _ + (if aFresh A.S w i = true then 1 else 0) = _
          rw [if_neg z]; rfl
        rw [this]
      · by_cases e : c = i
        · subst e; rw [e7]; exact (if_neg (fun q => z q.2)).symm
        · exact hlo c (by omega)
    dsimp only [x_int, x_lng, x_ild, x_lld, x_ald, x_ist, x_ast, x_lst, x_inc, x_ii, x_id, x_i, x_ll, x_ld, x_l, x_cmp, x_i2l, x_l2i, x_if, x_ic, x_dup, x_pop, x_dup2, x_gI, x_gL, x_gR, x_g1, x_g0, x_gP, x_pI, x_pZ, x_pL, x_pP, x_al, x_as, x_all, x_asl, x_alr, x_len, x_cpy, x_m2, x_m1, x_m2l, x_m1l, x_call, x_cv, x_ri, x_rz, x_rl, x_rv, zg, zset, zbef, zlong, zcat, cond_true, cond_false, List.take, List.drop, rv1, rv2, rv3, rv4, rv5, rv6, rv7, sm0, sm1, bl0, bl1, bl2, bl3, bl4, bl5, bl6, bl7, bl8, List.nil_append, List.cons_append, List.length_cons, List.length_nil, Nat.reduceBEq, Nat.reduceAdd, Nat.reduceSub, ta, tb, tn0, tn1, tn2, tn3, tn4, tn5, tn6, tn7, tn8, tn9, tn10, tn11, tn12, zk_79, zl_79, zk_81, zl_81, zk_83, zl_83, bX12_plane_72]
    rw [n_cl (n := i) (by omega), e3, e5, e7, n_succ i, n_succ, nar1]
    refine ⟨fun c => absurd c (lt_go hcn (by omega) hi), fun _ => ⟨zi, fun c => skip (fun z => (aFresh_n7 z).1 c), fun c1 => ⟨zi, fun c2 => ⟨zi, fun c3 => ⟨zi, ?_⟩, fun c3 => skip (fun z => (aFresh_n7 z).2.1 ((wQ i hi).2.resolve_left c3))⟩, fun c2 => skip (fun z => c2 (aFresh_n7 z).2.2)⟩⟩⟩
    have z : aFresh A.S w i = true := decide_eq_true ⟨c1, by rw [c3]; decide, c2⟩
    refine hself _ _ ⟨(zsI (I', L, P) 83 0 i 1).1, ?_, rfl, hI.set rfl, fun c hc => ?_, fun c hc => ?_⟩
    · have : zcount (aFresh A.S w) (i + 1) = zcount (aFresh A.S w) i + 1 := by
        show _ + (if aFresh A.S w i = true then 1 else 0) = _
        rw [if_pos z]
      rw [this]
    · by_cases e : c = i
      · subst e; rw [zs_h ⟨rfl, rfl⟩]; exact (if_pos ⟨rfl, z⟩).symm
      · rw [zs_r (by omega)]; exact hlo c (by omega)
    · rw [zs_r (by omega)]; exact hhi c (by omega)
  · rintro Z M ⟨I', rfl, rfl, hI, hlo, hhi⟩ self
    have hcn : I' 12 0 14 = nI (A.T.1 2) := ((hI.lo (by omega)).trans (f2.lo (by decide))).trans hT.1.2.2
    dsimp only [x_int, x_lng, x_ild, x_lld, x_ald, x_ist, x_ast, x_lst, x_inc, x_ii, x_id, x_i, x_ll, x_ld, x_l, x_cmp, x_i2l, x_l2i, x_if, x_ic, x_dup, x_pop, x_dup2, x_gI, x_gL, x_gR, x_g1, x_g0, x_gP, x_pI, x_pZ, x_pL, x_pP, x_al, x_as, x_all, x_asl, x_alr, x_len, x_cpy, x_m2, x_m1, x_m2l, x_m1l, x_call, x_cv, x_ri, x_rz, x_rl, x_rv, zg, zset, zbef, zlong, zcat, cond_true, cond_false, List.take, List.drop, rv1, rv2, rv3, rv4, rv5, rv6, rv7, sm0, sm1, bl0, bl1, bl2, bl3, bl4, bl5, bl6, bl7, bl8, List.nil_append, List.cons_append, List.length_cons, List.length_nil, Nat.reduceBEq, Nat.reduceAdd, Nat.reduceSub, ta, tb, tn0, tn1, tn2, tn3, tn4, tn5, tn6, tn7, tn8, tn9, tn10, tn11, tn12]
    refine ⟨fun _ => ?_, fun c => absurd c (lt_out hcn)⟩
    obtain ⟨q1, q2⟩ := RR.mk1 (I3 := I') (S' := pln7 A.S w) hR1 f2 u2 sn (fun a b c q => hI a b c (fun z => q ⟨z.1, by omega⟩)) (fun y hy => by
      have := (hS.1 y hy).1
      rw [coldR_pln hp (by omega), show 6 * 0 + y = y by omega] at this
      rw [pln7_o (by decide)]; exact ((hI.lo (by omega)).trans (f2.lo (by omega))).trans this) (fun y hy => by
      have := (hS.2.1 y hy).2
      rw [show 4 * 0 + y = y by omega] at this
      rw [pln7_o (by decide)]; exact ((hI.lo (by omega)).trans (f2.lo (by omega))).trans this) (fun y hy => by
      obtain ⟨b3, b5, b7, b4⟩ := hb y hy
      rw [pln7_o (by decide), pln7_o (by decide)]
      exact ⟨(hI.lo (by omega)).trans b3, (hI.lo (by omega)).trans b4, hlo y hy⟩) (fun c hc => by
      rw [hlo c hc]
      unfold pln7
      split
      · exact Or.inr rfl
      · exact (wQ c hc).2) (fun f i q => pln7_o (fun z => q (by omega))) (fun r _ _ => pln7_o (by decide))
    exact hK _ q1 (f1.Y.tr q2)
-- undo
def mrg (S S0 : aS) : aS := fun f i => if f = 0 ∨ f = 2 ∨ f = 3 ∨ f = 4 ∨ f = 7 then S0 f i else S f i
def s_undo (A : aA) : aA × Int32 := match A.U.1 with
  | 0 => (A, -1)
  | n + 1 => (updA A (mrg A.S (A.U.2 n)) (n, A.U.2), nI n)
def WU (A : aA) : Prop := A.U.1 ≤ 20 ∧ ∀ i, i < A.U.1 → ∀ r, r < A.T.1 2 → (¬ A.S 5 r = 0 → A.U.2 i 4 r = A.S 4 r) ∧ (A.U.2 i 7 r = 0 ∨ A.U.2 i 7 r = 1) ∧ ∃ w, w < A.T.1 1 ∧ A.U.2 i 3 r = nI w
theorem uE.s1 {T : aT} {S S1 S2 : aS} (h : uE T S S1) (e : ∀ f i, f = 0 ∨ f = 2 ∨ f = 3 ∨ f = 4 ∨ f = 7 → S1 f i = S2 f i) : uE T S S2 := by
  obtain ⟨h1, h2, h3⟩ := h
  exact ⟨fun x hx => (h1 x hx).trans (e 0 x (by omega)), fun x hx => (h2 x hx).trans (e 2 x (by omega)), fun x hx => ⟨(h3 x hx).1.trans (e 3 x (by omega)), (h3 x hx).2.1.trans (e 4 x (by omega)), (h3 x hx).2.2.trans (e 7 x (by omega))⟩⟩
theorem dOK.s1 {T : aT} {d : Nat → Int32} {S0 S1 S2 : aS} (h : dOK T d S0 S1) (e : ∀ f i, f = 0 ∨ f = 2 ∨ f = 3 ∨ f = 4 ∨ f = 7 → S1 f i = S2 f i) : dOK T d S0 S2 := by
  have es : ∀ f0 i0 v f i, f = 0 ∨ f = 2 ∨ f = 3 ∨ f = 4 ∨ f = 7 → su S1 f0 i0 v f i = su S2 f0 i0 v f i := fun f0 i0 v f i hf => by
    unfold su
    rw [e f i hf]
  rcases h with ⟨h0, x, h1, h2, h3⟩ | ⟨h0, x, h1, h2, h3⟩ | ⟨h0, x, h1, h2, h3⟩ | ⟨h0, p, h1, h2, h3⟩
  · exact Or.inl ⟨h0, x, h1, h2, h3.s1 (es _ _ _)⟩
  · refine Or.inr (Or.inl ⟨h0, x, h1, h2, h3.s1 (fun f i hf => ?_)⟩)
    have := es 3 x (d 2) f i hf
    unfold su at this ⊢
    rw [this]
  · exact Or.inr (Or.inr (Or.inl ⟨h0, x, h1, h2, h3.s1 (es _ _ _)⟩))
  · exact Or.inr (Or.inr (Or.inr ⟨h0, p, h1, fun r hr q => (e 7 r (by omega)).symm.trans (h2 r hr q), h3.s1 (fun f i hf => by rw [e f i hf])⟩))
theorem p_takeLast {K : zQ} {I : zI} {L : zJ} {P : zP} {n : Nat} (hn : n < 20) (hs : I 0 0 1 = nI (n + 1)) (hK : ∀ I' : zI, ony (fun a _ => a = 0) I I' → I' 0 0 1 = nI n → I' 0 0 2 = I 13 0 (4 * n) → I' 0 0 3 = I 13 0 (4 * n + 1) → I' 0 0 4 = I 13 0 (4 * n + 2) → I' 0 0 5 = I 13 0 (4 * n + 3) → K [] (I', L, P)) : mX0_takeLast K [.inr (.inr (0, 0))] (I, L, P) := by
  show bX0_takeLast_0 K [some (.inr (.inr (0,0))), none] [] (I, L, P)
  unfold bX0_takeLast_0
  dsimp only [x_int, x_lng, x_ild, x_lld, x_ald, x_ist, x_ast, x_lst, x_inc, x_ii, x_id, x_i, x_ll, x_ld, x_l, x_cmp, x_i2l, x_l2i, x_if, x_ic, x_dup, x_pop, x_dup2, x_gI, x_gL, x_gR, x_g1, x_g0, x_gP, x_pI, x_pZ, x_pL, x_pP, x_al, x_as, x_all, x_asl, x_alr, x_len, x_cpy, x_m2, x_m1, x_m2l, x_m1l, x_call, x_cv, x_ri, x_rz, x_rl, x_rv, zg, zset, zbef, zlong, zcat, cond_true, cond_false, List.take, List.drop, rv1, rv2, rv3, rv4, rv5, rv6, rv7, sm0, sm1, bl0, bl1, bl2, bl3, bl4, bl5, bl6, bl7, bl8, List.nil_append, List.cons_append, List.length_cons, List.length_nil, Nat.reduceBEq, Nat.reduceAdd, Nat.reduceSub, ta, tb, tn0, tn1, tn2, tn3, tn4, tn5, tn6, tn7, tn8, tn9, tn10, tn11, tn12, zk_13, zl_13]
  have e1 : nI (n + 1) - 1 = nI n := by
    have := n_succ n
    rw [← this, Int32.add_sub_cancel]
  have r0 : (zsI (I, L, P) 0 0 1 (nI n)).1 0 0 1 = nI n := by simp [zsI]
  have r1 : ∀ c, (zsI (I, L, P) 0 0 1 (nI n)).1 13 0 c = I 13 0 c := fun c => by simp [zsI]
  have r2 : ∀ v c, (zsI (zsI (I, L, P) 0 0 1 (nI n)) 0 0 2 v).1 13 0 c = I 13 0 c := fun v c => by simp [zsI]
  have r3 : ∀ v v2 c, (zsI (zsI (zsI (I, L, P) 0 0 1 (nI n)) 0 0 2 v) 0 0 3 v2).1 13 0 c = I 13 0 c := fun v v2 c => by simp [zsI]
  have r4 : ∀ v v2 v3 c, (zsI (zsI (zsI (zsI (I, L, P) 0 0 1 (nI n)) 0 0 2 v) 0 0 3 v2) 0 0 4 v3).1 13 0 c = I 13 0 c := fun v v2 v3 c => by simp [zsI]
  rw [hs, e1, r0, show nI n * 4 = nI (4 * n) by rw [show (4 : Int32) = nI 4 from rfl, n_mul, Nat.mul_comm], show nI (4 * n) + 1 = nI (4 * n + 1) from n_add _ 1, show nI (4 * n) + 2 = nI (4 * n + 2) from n_add _ 2, show nI (4 * n) + 3 = nI (4 * n + 3) from n_add _ 3, n_cl (n := 4 * n) (by omega), n_cl (n := 4 * n + 1) (by omega), n_cl (n := 4 * n + 2) (by omega), n_cl (n := 4 * n + 3) (by omega), r1, r2, r3, r4]
  refine ⟨fun _ => ⟨n_zin (by omega) (by decide), n_zin (by omega) (by decide), n_zin (by omega) (by decide), n_zin (by omega) (by decide), ?_⟩, fun c => absurd ?_ c⟩
  · refine hK _ (ony.set (ony.set (ony.set (ony.set (ony.set ony.rf rfl) rfl) rfl) rfl) rfl) ?_ ?_ ?_ ?_ ?_ <;> simp [zsI]
  · rw [show (0 : Int32) = nI 0 from rfl, n_lt (by omega) (by omega)]; omega
theorem c_undo {K : zQ} {I : zI} {L : zJ} {P : zP} {A : aA} (hC : RC A I P) (hK : ∀ (I' : zI), RC (s_undo A).1 I' P → frX I I' L L → K [.inl (s_undo A).2] (I', L, P)) : mX11_undo K [kbR] (I, L, P) := by
  obtain ⟨t, hT, h11, h8, hS⟩ := hC.b
  have h6 := hT.h6
  have w4 := hT.w4
  have r10 := hT.r10
  have hD : RCd A.T A.S A.U I := by obtain ⟨t, -, -, -, -, hD, -⟩ := hC; exact hD
  obtain ⟨g1, g2, g3⟩ := hD
  show bX11_undo_0 K [some (.inr (.inr (11,0)))] [] (I, L, P)
  unfold bX11_undo_0
  dsimp only [x_int, x_lng, x_ild, x_lld, x_ald, x_ist, x_ast, x_lst, x_inc, x_ii, x_id, x_i, x_ll, x_ld, x_l, x_cmp, x_i2l, x_l2i, x_if, x_ic, x_dup, x_pop, x_dup2, x_gI, x_gL, x_gR, x_g1, x_g0, x_gP, x_pI, x_pZ, x_pL, x_pP, x_al, x_as, x_all, x_asl, x_alr, x_len, x_cpy, x_m2, x_m1, x_m2l, x_m1l, x_call, x_cv, x_ri, x_rz, x_rl, x_rv, zg, zset, zbef, zlong, zcat, cond_true, cond_false, List.take, List.drop, rv1, rv2, rv3, rv4, rv5, rv6, rv7, sm0, sm1, bl0, bl1, bl2, bl3, bl4, bl5, bl6, bl7, bl8, List.nil_append, List.cons_append, List.length_cons, List.length_nil, Nat.reduceBEq, Nat.reduceAdd, Nat.reduceSub, ta, tb, tn0, tn1, tn2, tn3, tn4, tn5, tn6, tn7, tn8, tn9, tn10, tn11, tn12]
  rw [g1]
  unfold s_undo at hK
  cases en : A.U.1 with
  | zero =>
    rw [en] at hK
    exact ⟨fun _ => hK I hC frX.rf, fun c => absurd rfl c⟩
  | succ n =>
    rw [en] at hK g1 g2 g3
    have hK : ∀ (I' : zI), RC (updA A (mrg A.S (A.U.2 n)) (n, A.U.2)) I' P → frX I I' L L → K [.inl (nI n)] (I', L, P) := hK
    refine ⟨fun c => ?_, fun _ => p_takeLast (by omega) g1 (fun I2 f2 s2 k2 w2 a2 b2 => ?_)⟩
    · rw [show (0 : Int32) = nI 0 from rfl, n_eq (by omega) (by omega)] at c
      omega
    have hd := g3 n (by omega)
    have un : nxt A.U A.S n = A.S := if_neg (by omega)
    rw [un] at hd
    have hD2 : RCd A.T (mrg A.S (A.U.2 n)) (n, A.U.2) I2 := by
      refine ⟨s2, by show n ≤ 20; omega, fun i hi => ?_⟩
      have hi : i < n := hi
      have h := (g3 i (by omega)).cg (d' := fun q => I2 13 0 (4 * i + q)) (fun q hq => f2.lo (by omega))
      have u1 : nxt A.U A.S i = A.U.2 (i + 1) := if_pos (by omega)
      rw [u1] at h
      by_cases e : i + 1 < n
      · have u2 : nxt (n, A.U.2) (mrg A.S (A.U.2 n)) i = A.U.2 (i + 1) := if_pos e
        rw [u2]; exact h
      · have u2 : nxt (n, A.U.2) (mrg A.S (A.U.2 n)) i = mrg A.S (A.U.2 n) := if_neg e
        rw [u2]
        refine h.s1 (fun f j hf => ?_)
        unfold mrg
        rw [if_pos hf, show i + 1 = n by omega]
    have f2' : ony (fun a _ => a = 0 ∨ a = 13) I I2 := f2.mono (fun a _ z => Or.inl z)
    have m0 : ∀ x, mrg A.S (A.U.2 n) 0 x = A.U.2 n 0 x := fun x => if_pos (by omega)
    have m2 : ∀ x, mrg A.S (A.U.2 n) 2 x = A.U.2 n 2 x := fun x => if_pos (by omega)
    have m3 : ∀ x, mrg A.S (A.U.2 n) 3 x = A.U.2 n 3 x := fun x => if_pos (by omega)
    have m4 : ∀ x, mrg A.S (A.U.2 n) 4 x = A.U.2 n 4 x := fun x => if_pos (by omega)
    have m7 : mrg A.S (A.U.2 n) 7 = A.U.2 n 7 := by funext x; exact if_pos (by omega)
    have mo : ∀ f i, ¬ (f = 0 ∨ f = 2 ∨ f = 3 ∨ f = 4 ∨ f = 7) → mrg A.S (A.U.2 n) f i = A.S f i := fun f i q => if_neg q
    have i31 : ∀ y, y < A.T.1 0 → I2 31 0 y = A.S 0 y := fun y hy => (f2.lo (by omega)).trans (hS.1 y hy).1
    have i35 : ∀ y, y < A.T.1 1 → I2 35 0 y = A.S 2 y := fun y hy => (f2.lo (by omega)).trans (hS.2.1 y hy).2
    have i36 : ∀ y, y < A.T.1 2 → I2 36 0 y = A.S 3 y ∧ I2 37 0 y = A.S 4 y := fun y hy => ⟨(f2.lo (by omega)).trans (hS.2.2.1 y hy).1, (f2.lo (by omega)).trans (hS.2.2.1 y hy).2.1⟩
    have i8 : I2 8 0 17 = nI (bsum (A.S 7) (A.T.1 2)) := (f2.lo (by omega)).trans hS.2.2.2.2.2.2.2
    have fin : ∀ I3 : zI, (∀ a b c, ¬ (b = 0 ∧ (a = 31 ∨ a = 35 ∨ a = 36 ∨ a = 37 ∨ (a = 8 ∧ c = 17))) → I3 a b c = I2 a b c) → (∀ x, x < A.T.1 0 → I3 31 0 x = A.U.2 n 0 x) → (∀ x, x < A.T.1 1 → I3 35 0 x = A.U.2 n 2 x) → (∀ x, x < A.T.1 2 → I3 36 0 x = A.U.2 n 3 x ∧ I3 37 0 x = A.U.2 n 4 x) → I3 8 0 17 = nI (bsum (A.U.2 n 7) (A.T.1 2)) → bX11_undo_170 K [some kbR] [] (I3, L, P) := fun I3 e e0 e2 e3 e7 => by
      obtain ⟨q1, q2⟩ := RC.mk1 (I3 := I3) (L := L) hC f2' hD2 e (fun x hx => by rw [m0]; exact e0 x hx) (fun x hx => by rw [m2]; exact e2 x hx) (fun x hx => by rw [m3, m4]; exact e3 x hx) (by rw [m7]; exact e7) mo
      unfold bX11_undo_170
      dsimp only [x_int, x_lng, x_ild, x_lld, x_ald, x_ist, x_ast, x_lst, x_inc, x_ii, x_id, x_i, x_ll, x_ld, x_l, x_cmp, x_i2l, x_l2i, x_if, x_ic, x_dup, x_pop, x_dup2, x_gI, x_gL, x_gR, x_g1, x_g0, x_gP, x_pI, x_pZ, x_pL, x_pP, x_al, x_as, x_all, x_asl, x_alr, x_len, x_cpy, x_m2, x_m1, x_m2l, x_m1l, x_call, x_cv, x_ri, x_rz, x_rl, x_rv, zg, zset, zbef, zlong, zcat, cond_true, cond_false, List.take, List.drop, rv1, rv2, rv3, rv4, rv5, rv6, rv7, sm0, sm1, bl0, bl1, bl2, bl3, bl4, bl5, bl6, bl7, bl8, List.nil_append, List.cons_append, List.length_cons, List.length_nil, Nat.reduceBEq, Nat.reduceAdd, Nat.reduceSub, ta, tb, tn0, tn1, tn2, tn3, tn4, tn5, tn6, tn7, tn8, tn9, tn10, tn11, tn12]
      rw [e 0 0 _ (by omega), s2]
      exact hK I3 q1 q2
    dsimp only [x_int, x_lng, x_ild, x_lld, x_ald, x_ist, x_ast, x_lst, x_inc, x_ii, x_id, x_i, x_ll, x_ld, x_l, x_cmp, x_i2l, x_l2i, x_if, x_ic, x_dup, x_pop, x_dup2, x_gI, x_gL, x_gR, x_g1, x_g0, x_gP, x_pI, x_pZ, x_pL, x_pP, x_al, x_as, x_all, x_asl, x_alr, x_len, x_cpy, x_m2, x_m1, x_m2l, x_m1l, x_call, x_cv, x_ri, x_rz, x_rl, x_rv, zg, zset, zbef, zlong, zcat, cond_true, cond_false, List.take, List.drop, rv1, rv2, rv3, rv4, rv5, rv6, rv7, sm0, sm1, bl0, bl1, bl2, bl3, bl4, bl5, bl6, bl7, bl8, List.nil_append, List.cons_append, List.length_cons, List.length_nil, Nat.reduceBEq, Nat.reduceAdd, Nat.reduceSub, ta, tb, tn0, tn1, tn2, tn3, tn4, tn5, tn6, tn7, tn8, tn9, tn10, tn11, tn12, g_sw, zk_31, zl_31, zk_35, zl_35, zk_36, zl_36, zk_37, zl_37]
    rw [k2, w2, a2]
    have z0 : ∀ c, (fun q => I 13 0 (4 * n + q)) c = I 13 0 (4 * n + c) := fun _ => rfl
    rcases hd with ⟨h0, x, hx, h1, hu⟩ | ⟨h0, x, hx, h1, hu⟩ | ⟨h0, x, hx, h1, hu⟩ | ⟨h0, p, h1, hp7, hu⟩
    · have h0 : I 13 0 (4 * n) = 0 := h0
      have h1 : I 13 0 (4 * n + 1) = nI x := h1
      obtain ⟨ua, ub, uc⟩ := hu
      rw [h0, h1, n_cl (n := x) (by omega)]
      refine ⟨fun _ => ⟨n_zin (by omega) (by decide), fin (zsI (I2, L, P) 31 0 x (I 13 0 (4 * n + 2))).1 (fun a b c q => zs_f (fun z => q ⟨z.1, by omega⟩)) (fun y hy => ?_) (fun y hy => ?_) (fun y hy => ?_) ?_⟩, fun z => absurd rfl z⟩
      · rw [ua y hy]
        by_cases e : y = x
        · rw [zs_h ⟨rfl, e⟩, su_h ⟨rfl, e⟩]
        · rw [zs_r (by omega), su_r (by omega)]; exact i31 y hy
      · rw [ub y hy, zs_r (by omega), su_r (by omega)]; exact i35 y hy
      · obtain ⟨v1, v2, v3⟩ := uc y hy
        rw [v1, v2, zs_r (by omega), zs_r (by omega), su_r (by omega), su_r (by omega)]; exact i36 y hy
      · rw [zs_r (by omega), bsum_congr (g := A.S 7) (fun i hi => by rw [(uc i hi).2.2, su_r (by omega)])]; exact i8
    · have h0 : I 13 0 (4 * n) = 1 := h0
      have h1 : I 13 0 (4 * n + 1) = nI x := h1
      obtain ⟨ua, ub, uc⟩ := hu
      have rw' : ∀ v, (zsI (I2, L, P) 36 0 x v).1 0 0 3 = I2 0 0 3 := fun v => zs_r (by omega)
      have rb' : ∀ v, (zsI (I2, L, P) 36 0 x v).1 0 0 5 = I2 0 0 5 := fun v => zs_r (by omega)
      rw [h0, h1, n_cl (n := x) (by omega), rw', rb', w2, b2, h1, n_cl (n := x) (by omega)]
      refine ⟨fun z => absurd z (by decide), fun _ => ⟨fun _ => ⟨n_zin (by omega) (by decide), n_zin (by omega) (by decide), fin (zsI (zsI (I2, L, P) 36 0 x (I 13 0 (4 * n + 2))) 37 0 x (I 13 0 (4 * n + 3))).1 (fun a b c q => (zs_f (fun z => q ⟨z.1, by omega⟩)).trans (zs_f (fun z => q ⟨z.1, by omega⟩))) (fun y hy => ?_) (fun y hy => ?_) (fun y hy => ?_) ?_⟩, fun z => absurd rfl z⟩⟩
      · rw [ua y hy, zs_r (by omega), zs_r (by omega), su_r (by omega), su_r (by omega)]; exact i31 y hy
      · rw [ub y hy, zs_r (by omega), zs_r (by omega), su_r (by omega), su_r (by omega)]; exact i35 y hy
      · obtain ⟨v1, v2, v3⟩ := uc y hy
        rw [v1, v2]
        by_cases e : y = x
        · rw [zs_r (by omega), zs_h ⟨rfl, e⟩, zs_h ⟨rfl, e⟩, su_r (by omega), su_h ⟨rfl, e⟩, su_h ⟨rfl, e⟩]; exact ⟨rfl, rfl⟩
        · rw [zs_r (by omega), zs_r (by omega), zs_r (by omega), zs_r (by omega), su_r (by omega), su_r (by omega), su_r (by omega), su_r (by omega)]; exact i36 y hy
      · rw [zs_r (by omega), zs_r (by omega), bsum_congr (g := A.S 7) (fun i hi => by rw [(uc i hi).2.2, su_r (by omega), su_r (by omega)])]; exact i8
    · have h0 : I 13 0 (4 * n) = 2 := h0
      have h1 : I 13 0 (4 * n + 1) = nI x := h1
      obtain ⟨ua, ub, uc⟩ := hu
      rw [h0, h1, n_cl (n := x) (by omega)]
      refine ⟨fun z => absurd z (by decide), fun _ => ⟨fun z => absurd z (by decide), fun _ => ⟨fun _ => ⟨n_zin (by omega) (by decide), fin (zsI (I2, L, P) 35 0 x (I 13 0 (4 * n + 2))).1 (fun a b c q => zs_f (fun z => q ⟨z.1, by omega⟩)) (fun y hy => ?_) (fun y hy => ?_) (fun y hy => ?_) ?_⟩, fun z => absurd rfl z⟩⟩⟩
      · rw [ua y hy, zs_r (by omega), su_r (by omega)]; exact i31 y hy
      · rw [ub y hy]
        by_cases e : y = x
        · rw [zs_h ⟨rfl, e⟩, su_h ⟨rfl, e⟩]
        · rw [zs_r (by omega), su_r (by omega)]; exact i35 y hy
      · obtain ⟨v1, v2, v3⟩ := uc y hy
        rw [v1, v2, zs_r (by omega), zs_r (by omega), su_r (by omega), su_r (by omega)]; exact i36 y hy
      · rw [zs_r (by omega), bsum_congr (g := A.S 7) (fun i hi => by rw [(uc i hi).2.2, su_r (by omega)])]; exact i8
    · have h0 : I 13 0 (4 * n) = 3 := h0
      have h1 : I 13 0 (4 * n + 2) = nI (bsB p (A.T.1 2)) := h1
      obtain ⟨ua, ub, uc⟩ := hu
      have e7 : bsum (A.U.2 n 7) (A.T.1 2) = bsB (fun r => decide (A.S 7 r = 1) && !p r) (A.T.1 2) := by
        rw [bsB_sum]
        refine bsB_congr (fun i hi => ?_)
        rw [(uc i hi).2.2]
        by_cases z : p i = true
        · simp [z]
        · simp [z]
      rw [h0, h1, i8, bsB_sum, bsB_andn r10]
      refine ⟨fun z => absurd z (by decide), fun _ => ⟨fun z => absurd z (by decide), fun _ => ⟨fun z => absurd z (by decide), fun _ => fin (zsI (I2, L, P) 8 0 17 (nI (bsB (fun r => decide (A.S 7 r = 1) && !p r) (A.T.1 2)))).1 (fun a b c q => if_neg (fun z => q ⟨z.2.1, by omega⟩)) (fun y hy => ?_) (fun y hy => ?_) (fun y hy => ?_) ?_⟩⟩⟩
      · rw [ua y hy, zs_r (by omega)]; exact i31 y hy
      · rw [ub y hy, zs_r (by omega)]; exact i35 y hy
      · obtain ⟨v1, v2, v3⟩ := uc y hy
        rw [v1, v2, zs_r (by omega), zs_r (by omega)]; exact i36 y hy
      · rw [zs_h ⟨rfl, rfl⟩, e7]
theorem r_undo {K : zQ} {I : zI} {L : zJ} {P : zP} {A : aA} (wU : WU A) (hR : RR A I L) (hK : ∀ (I' : zI), RR (s_undo A).1 I' L → frY I I' → K [.inl (s_undo A).2] (I', L, P)) : mX12_undo K [refR] (I, L, P) := by
  show bX12_undo_0 K [some (.inr (.inr (12,0)))] [] (I, L, P)
  unfold bX12_undo_0
  obtain ⟨I1, e9, hR1, f1⟩ := r_thr P hR
  dsimp only [x_ald, x_int, x_pI, zg, Nat.reduceBEq, cond_true]
  rw [e9]
  have hT := hR1.1
  have hS := hR1.2.1
  have h6 := hT.h6
  have w4 := hT.w4
  have r10 := hT.r10
  have hU := hR1.2.2.2.2.2.2.1
  unfold s_undo at hK
  obtain ⟨wu, wU⟩ := wU
  dsimp only [x_int, x_lng, x_ild, x_lld, x_ald, x_ist, x_ast, x_lst, x_inc, x_ii, x_id, x_i, x_ll, x_ld, x_l, x_cmp, x_i2l, x_l2i, x_if, x_ic, x_dup, x_pop, x_dup2, x_gI, x_gL, x_gR, x_g1, x_g0, x_gP, x_pI, x_pZ, x_pL, x_pP, x_al, x_as, x_all, x_asl, x_alr, x_len, x_cpy, x_m2, x_m1, x_m2l, x_m1l, x_call, x_cv, x_ri, x_rz, x_rl, x_rv, zg, zset, zbef, zlong, zcat, cond_true, cond_false, List.take, List.drop, rv1, rv2, rv3, rv4, rv5, rv6, rv7, sm0, sm1, bl0, bl1, bl2, bl3, bl4, bl5, bl6, bl7, bl8, List.nil_append, List.cons_append, List.length_cons, List.length_nil, Nat.reduceBEq, Nat.reduceAdd, Nat.reduceSub, ta, tb, tn0, tn1, tn2, tn3, tn4, tn5, tn6, tn7, tn8, tn9, tn10, tn11, tn12]
  rw [hU.1]
  cases en : A.U.1 with
  | zero =>
    rw [en] at hK
    exact ⟨fun _ => hK I1 hR1 f1.Y, fun c => absurd rfl c⟩
  | succ n =>
    rw [en] at hK hU wU wu
    have hK : ∀ (I' : zI), RR (updA A (mrg A.S (A.U.2 n)) (n, A.U.2)) I' L → frY I I' → K [.inl (nI n)] (I', L, P) := hK
    have e1 : nI (n + 1) - 1 = nI n := by
      have := n_succ n
      rw [← this, Int32.add_sub_cancel]
    have r0 : (zsI (I1, L, P) 12 0 73 (nI n)).1 12 0 73 = nI n := by simp [zsI]
    rw [e1, r0, show (40 : Int32) * nI n = nI (40 * n) from n_mul 40 _]
    refine ⟨fun c => ?_, fun _ => p_take (I := (zsI (I1, L, P) 12 0 73 (nI n)).1) (Or.inl rfl) rfl (by show _ ≤ 800; omega) (by decide) (fun I3 f3 t1 t2 t3 t4 t5 => ?_)⟩
    · rw [show (0 : Int32) = nI 0 from rfl, n_eq (by omega) (by omega)] at c
      omega
    have f2 : ony remF I1 (zsI (I1, L, P) 12 0 73 (nI n)).1 := ony.set ony.rf (Or.inr ⟨rfl, rfl⟩)
    have q91 : ∀ c, (zsI (I1, L, P) 12 0 73 (nI n)).1 91 0 c = I1 91 0 c := fun c => zs_r (by omega)
    obtain ⟨n1, n2, n3⟩ := hU.2 n (by omega)
    have m0 : ∀ x, mrg A.S (A.U.2 n) 0 x = A.U.2 n 0 x := fun x => if_pos (by omega)
    have m2 : ∀ x, mrg A.S (A.U.2 n) 2 x = A.U.2 n 2 x := fun x => if_pos (by omega)
    have m3 : ∀ x, mrg A.S (A.U.2 n) 3 x = A.U.2 n 3 x := fun x => if_pos (by omega)
    have m4 : ∀ x, mrg A.S (A.U.2 n) 4 x = A.U.2 n 4 x := fun x => if_pos (by omega)
    have m7 : ∀ x, mrg A.S (A.U.2 n) 7 x = A.U.2 n 7 x := fun x => if_pos (by omega)
    obtain ⟨q1, q2⟩ := RR.mk1 (I3 := I3) (S' := mrg A.S (A.U.2 n)) (U' := (n, A.U.2)) hR1 f2 r0 (fun i hi => (hU.2 i (by have : i < n := hi; omega)).q q91) (fun a b c q => f3 a b c (fun z => q ⟨z.1, by have := z.2; omega⟩)) (fun y hy => by rw [m0, ← n1 y hy, t1.get (by omega)]; exact q91 _) (fun y hy => by rw [m2, ← n3 y hy, t5.get (by omega)]; exact q91 _) (fun y hy => by
      obtain ⟨v1, v2, v3⟩ := n2 y hy
      rw [m3, m4, m7, t2.get (by omega), t3.get (by omega), t4.get (by omega)]
      rw [q91, q91, q91, v1, v2, v3]
      refine ⟨rfl, rfl, ?_⟩
      rcases (wU n (by omega) y hy).2.1 with z | z <;> rw [z] <;> decide) (fun c hc => by
      rw [t4.get (by omega)]
      split
      · exact Or.inr rfl
      · exact Or.inl rfl) (fun f i q => if_neg q) (fun r hr h5 => by rw [m4]; exact (wU n (by omega) r hr).1 h5)
    dsimp only [x_int, x_lng, x_ild, x_lld, x_ald, x_ist, x_ast, x_lst, x_inc, x_ii, x_id, x_i, x_ll, x_ld, x_l, x_cmp, x_i2l, x_l2i, x_if, x_ic, x_dup, x_pop, x_dup2, x_gI, x_gL, x_gR, x_g1, x_g0, x_gP, x_pI, x_pZ, x_pL, x_pP, x_al, x_as, x_all, x_asl, x_alr, x_len, x_cpy, x_m2, x_m1, x_m2l, x_m1l, x_call, x_cv, x_ri, x_rz, x_rl, x_rv, zg, zset, zbef, zlong, zcat, cond_true, cond_false, List.take, List.drop, rv1, rv2, rv3, rv4, rv5, rv6, rv7, sm0, sm1, bl0, bl1, bl2, bl3, bl4, bl5, bl6, bl7, bl8, List.nil_append, List.cons_append, List.length_cons, List.length_nil, Nat.reduceBEq, Nat.reduceAdd, Nat.reduceSub, ta, tb, tn0, tn1, tn2, tn3, tn4, tn5, tn6, tn7, tn8, tn9, tn10, tn11, tn12]
    have s3 : I3 12 0 73 = nI n := (f3.lo (by omega)).trans r0
    rw [s3]
    exact hK I3 q1 (f1.Y.tr q2)
