-- keep and back
def tld (T : aT) (S : aS) : Prop := (∀ h, h < T.1 0 → S 11 h = T.2.1 2 h) ∧ (∀ w, w < T.1 1 → S 12 w = T.2.1 6 w) ∧ S 13 0 = T.2.1 11 0 ∧ S 14 0 = -1
def WX (T : aT) (S : aS) : Prop := WS T S ∧ WQ T S ∧ WB T S ∧ WL S ∧ tld T S ∧ 0 ≤ S 10 0
def s_keep (A : aA) : aA × Int32 := ((A.1, A.2.1, some A.2.1, A.2.2.2), A.S 9 0)
def s_back (A : aA) : aA × Int32 := match A.im with
  | none => (A, -1)
  | some S => (updA A S (0, A.U.2), S 9 0)
theorem csK8 {a c : Nat} (h : csK a c = true) : (31 ≤ a ∧ a ≤ 40) ∨ a = 8 := by
  unfold csK at h
  simp only [Bool.or_eq_true, Bool.and_eq_true, Nat.ble_eq, beq_iff_eq] at h
  omega
theorem ctK8 {a : Nat} (h : ctK a = true ∨ a = 15) : a = 9 ∨ a = 1 ∨ a = 14 ∨ a = 10 ∨ a = 4 ∨ a = 2 ∨ a = 16 ∨ a = 15 := by
  unfold ctK at h
  simp only [Bool.or_eq_true, beq_iff_eq] at h
  omega
theorem frS.e {j : Nat} {I I' : zI} (h : frS j I I') {a b c : Nat} (q : ¬ (b = j ∧ (a = 8 ∨ (31 ≤ a ∧ a ≤ 41)))) : I' a b c = I a b c := h a b c (fun e => by
    have := e.1
    simp only [Bool.and_eq_true, Nat.ble_eq] at this
    exact q ⟨e.2, by omega⟩) (fun e => q ⟨e.2, by omega⟩)
theorem zsI_ex (I : zI) (L : zJ) (P : zP) (k i s : Nat) (v : Int32) : ∃ I3 : zI, zsI (I, L, P) k i s v = (I3, L, P) ∧ I3 k i s = v ∧ ∀ a b c, ¬ (a = k ∧ b = i ∧ c = s) → I3 a b c = I a b c := ⟨_, rfl, if_pos ⟨rfl, rfl, rfl⟩, fun _ _ _ q => if_neg q⟩
theorem p_clearD {K : zQ} {I : zI} {L : zJ} {P : zP} (hK : ∀ I' : zI, I' 0 0 1 = 0 → (∀ a b c, ¬ (a = 0 ∧ b = 0 ∧ c = 1) → I' a b c = I a b c) → K [] (I', L, P)) : mX0_clear K [.inr (.inr (0, 0))] (I, L, P) := by
  show bX0_clear_0 K [some (.inr (.inr (0,0)))] [] (I, L, P)
  unfold bX0_clear_0
  dsimp only [x_int, x_lng, x_ild, x_lld, x_ald, x_ist, x_ast, x_lst, x_inc, x_ii, x_id, x_i, x_ll, x_ld, x_l, x_cmp, x_i2l, x_l2i, x_if, x_ic, x_dup, x_pop, x_dup2, x_gI, x_gL, x_gR, x_g1, x_g0, x_gP, x_pI, x_pZ, x_pL, x_pP, x_al, x_as, x_all, x_asl, x_alr, x_len, x_cpy, x_m2, x_m1, x_m2l, x_m1l, x_call, x_cv, x_ri, x_rz, x_rl, x_rv, zg, zset, zbef, zlong, zcat, cond_true, cond_false, List.take, List.drop, rv1, rv2, rv3, rv4, rv5, rv6, rv7, sm0, sm1, bl0, bl1, bl2, bl3, bl4, bl5, bl6, bl7, bl8, List.nil_append, List.cons_append, List.length_cons, List.length_nil, Nat.reduceBEq, Nat.reduceAdd, Nat.reduceSub, ta, tb, tn0, tn1, tn2, tn3, tn4, tn5, tn6, tn7, tn8, tn9, tn10, tn11, tn12]
  obtain ⟨I3, e3, v3, f3⟩ := zsI_ex I L P 0 0 1 0
  rw [e3]
  exact hK I3 v3 f3
theorem c_keep {K : zQ} {I : zI} {L : zJ} {P : zP} {A : aA} (hC : RC A I P) (hK : ∀ (I' : zI) (P' : zP), RC (s_keep A).1 I' P' → frX I I' L L → K [.inl (s_keep A).2] (I', L, P')) : mX11_keep K [kbR] (I, L, P) := by
  obtain ⟨t, h1, h2, h3, h4, h5, h6, h7, h8, h9⟩ := hC
  have hT := h1.1
  show bX11_keep_0 K [some (.inr (.inr (11,0)))] [] (I, L, P)
  unfold bX11_keep_0
  dsimp only [x_int, x_lng, x_ild, x_lld, x_ald, x_ist, x_ast, x_lst, x_inc, x_ii, x_id, x_i, x_ll, x_ld, x_l, x_cmp, x_i2l, x_l2i, x_if, x_ic, x_dup, x_pop, x_dup2, x_gI, x_gL, x_gR, x_g1, x_g0, x_gP, x_pI, x_pZ, x_pL, x_pP, x_al, x_as, x_all, x_asl, x_alr, x_len, x_cpy, x_m2, x_m1, x_m2l, x_m1l, x_call, x_cv, x_ri, x_rz, x_rl, x_rv, zg, zset, zbef, zlong, zcat, cond_true, cond_false, List.take, List.drop, rv1, rv2, rv3, rv4, rv5, rv6, rv7, sm0, sm1, bl0, bl1, bl2, bl3, bl4, bl5, bl6, bl7, bl8, List.nil_append, List.cons_append, List.length_cons, List.length_nil, Nat.reduceBEq, Nat.reduceAdd, Nat.reduceSub, ta, tb, tn0, tn1, tn2, tn3, tn4, tn5, tn6, tn7, tn8, tn9, tn10, tn11, tn12]
  refine p_copyOf (a := 0) (b := 1) (by decide) h2 hT.1 (fun I1 P1 e1 e2 e3 e4 => ?_)
  dsimp only [x_int, x_lng, x_ild, x_lld, x_ald, x_ist, x_ast, x_lst, x_inc, x_ii, x_id, x_i, x_ll, x_ld, x_l, x_cmp, x_i2l, x_l2i, x_if, x_ic, x_dup, x_pop, x_dup2, x_gI, x_gL, x_gR, x_g1, x_g0, x_gP, x_pI, x_pZ, x_pL, x_pP, x_al, x_as, x_all, x_asl, x_alr, x_len, x_cpy, x_m2, x_m1, x_m2l, x_m1l, x_call, x_cv, x_ri, x_rz, x_rl, x_rv, zg, zset, zbef, zlong, zcat, cond_true, cond_false, List.take, List.drop, rv1, rv2, rv3, rv4, rv5, rv6, rv7, sm0, sm1, bl0, bl1, bl2, bl3, bl4, bl5, bl6, bl7, bl8, List.nil_append, List.cons_append, List.length_cons, List.length_nil, Nat.reduceBEq, Nat.reduceAdd, Nat.reduceSub, ta, tb, tn0, tn1, tn2, tn3, tn4, tn5, tn6, tn7, tn8, tn9, tn10, tn11, tn12]
  obtain ⟨I3, z3, v3, f3⟩ := zsI_ex I1 L P1 11 0 14 1
  rw [z3]
  dsimp only
  have f : ∀ a b c, ¬ (b = 1 ∧ (a = 8 ∨ (31 ≤ a ∧ a ≤ 41))) → ¬ (a = 11 ∧ b = 0 ∧ c = 14) → I3 a b c = I a b c := fun a b c q1 q2 => (f3 a b c q2).trans (e2.e q1)
  have g : ∀ a b c, ¬ a = 11 → I3 a b c = I1 a b c := fun a b c q => f3 a b c (fun z => q z.1)
  have day : I3 8 0 13 = A.S 9 0 := (f _ _ _ (by omega) (by omega)).trans h3.2.2.2.1
  rw [day]
  refine ⟨Or.inr rfl, hK _ P1 ⟨t, h1.e (fun a b c q => f _ _ _ (by have := ctK8 q; omega) (by have := ctK8 q; omega)) (fun c => e4 _ _ _ (by simp)), (e4 _ _ _ (by simp)).trans h2, h3.fr (fun a c q => f _ _ _ (by omega) (by have := csK8 q; omega)), ?_, h5.cg (f _ _ _ (by omega) (by omega)) (fun c => f _ _ _ (by omega) (by omega)), h6.e (fun a c q => f _ _ _ (by omega) (by omega)), h7.e (f _ _ _ (by omega) (by decide)) (fun c => f _ _ _ (by omega) (by omega)), ⟨(f _ _ _ (by omega) (by omega)).trans h8.1, (f _ _ _ (by omega) (by omega)).trans h8.2⟩, fun i hi => (f _ _ _ (by omega) (by omega)).trans (h9 i hi)⟩ (frX_of (fun a b c q => f _ _ _ (by omega) (by omega)))⟩
  refine ⟨v3, e3, ?_⟩
  exact (h3.copy hT e1).fr (fun a c q => g _ _ _ (by have := csK8 q; omega))
theorem c_back {K : zQ} {I : zI} {L : zJ} {P : zP} {A : aA} (hC : RC A I P) (hK : ∀ (I' : zI) (P' : zP), RC (s_back A).1 I' P' → frX I I' L L → K [.inl (s_back A).2] (I', L, P')) : mX11_back K [kbR] (I, L, P) := by
  have hC0 := hC
  obtain ⟨t, h1, h2, h3, h4, h5, h6, h7, h8, h9⟩ := hC
  have hT := h1.1
  show bX11_back_0 K [some (.inr (.inr (11,0)))] [] (I, L, P)
  unfold bX11_back_0
  dsimp only [x_int, x_lng, x_ild, x_lld, x_ald, x_ist, x_ast, x_lst, x_inc, x_ii, x_id, x_i, x_ll, x_ld, x_l, x_cmp, x_i2l, x_l2i, x_if, x_ic, x_dup, x_pop, x_dup2, x_gI, x_gL, x_gR, x_g1, x_g0, x_gP, x_pI, x_pZ, x_pL, x_pP, x_al, x_as, x_all, x_asl, x_alr, x_len, x_cpy, x_m2, x_m1, x_m2l, x_m1l, x_call, x_cv, x_ri, x_rz, x_rl, x_rv, zg, zset, zbef, zlong, zcat, cond_true, cond_false, List.take, List.drop, rv1, rv2, rv3, rv4, rv5, rv6, rv7, sm0, sm1, bl0, bl1, bl2, bl3, bl4, bl5, bl6, bl7, bl8, List.nil_append, List.cons_append, List.length_cons, List.length_nil, Nat.reduceBEq, Nat.reduceAdd, Nat.reduceSub, ta, tb, tn0, tn1, tn2, tn3, tn4, tn5, tn6, tn7, tn8, tn9, tn10, tn11, tn12]
  unfold s_back at hK
  unfold RCi at h4
  cases im : A.im with
  | none =>
    rw [im] at hK h4
    rw [h4]
    exact ⟨fun _ => hK I P hC0 frX.rf, fun z => absurd rfl z⟩
  | some S1 =>
    rw [im] at hK h4
    have hK : ∀ (I' : zI) (P' : zP), RC (updA A S1 (0, A.U.2)) I' P' → frX I I' L L → K [.inl (S1 9 0)] (I', L, P') := hK
    have h4 : I 11 0 14 = 1 ∧ P 8 1 0 = t ∧ CS I 1 A.T S1 := h4
    rw [h4.1]
    refine ⟨fun z => absurd z (by decide), fun _ => p_copyOf (a := 1) (b := 0) (by decide) h4.2.1 hT.1 (fun I1 P1 e1 e2 e3 e4 => ?_)⟩
    dsimp only [x_int, x_lng, x_ild, x_lld, x_ald, x_ist, x_ast, x_lst, x_inc, x_ii, x_id, x_i, x_ll, x_ld, x_l, x_cmp, x_i2l, x_l2i, x_if, x_ic, x_dup, x_pop, x_dup2, x_gI, x_gL, x_gR, x_g1, x_g0, x_gP, x_pI, x_pZ, x_pL, x_pP, x_al, x_as, x_all, x_asl, x_alr, x_len, x_cpy, x_m2, x_m1, x_m2l, x_m1l, x_call, x_cv, x_ri, x_rz, x_rl, x_rv, zg, zset, zbef, zlong, zcat, cond_true, cond_false, List.take, List.drop, rv1, rv2, rv3, rv4, rv5, rv6, rv7, sm0, sm1, bl0, bl1, bl2, bl3, bl4, bl5, bl6, bl7, bl8, List.nil_append, List.cons_append, List.length_cons, List.length_nil, Nat.reduceBEq, Nat.reduceAdd, Nat.reduceSub, ta, tb, tn0, tn1, tn2, tn3, tn4, tn5, tn6, tn7, tn8, tn9, tn10, tn11, tn12]
    refine p_clearD (fun I3 v3 f3 => ?_)
    dsimp only [x_int, x_lng, x_ild, x_lld, x_ald, x_ist, x_ast, x_lst, x_inc, x_ii, x_id, x_i, x_ll, x_ld, x_l, x_cmp, x_i2l, x_l2i, x_if, x_ic, x_dup, x_pop, x_dup2, x_gI, x_gL, x_gR, x_g1, x_g0, x_gP, x_pI, x_pZ, x_pL, x_pP, x_al, x_as, x_all, x_asl, x_alr, x_len, x_cpy, x_m2, x_m1, x_m2l, x_m1l, x_call, x_cv, x_ri, x_rz, x_rl, x_rv, zg, zset, zbef, zlong, zcat, cond_true, cond_false, List.take, List.drop, rv1, rv2, rv3, rv4, rv5, rv6, rv7, sm0, sm1, bl0, bl1, bl2, bl3, bl4, bl5, bl6, bl7, bl8, List.nil_append, List.cons_append, List.length_cons, List.length_nil, Nat.reduceBEq, Nat.reduceAdd, Nat.reduceSub, ta, tb, tn0, tn1, tn2, tn3, tn4, tn5, tn6, tn7, tn8, tn9, tn10, tn11, tn12]
    have hS1 : CS I1 0 A.T S1 := h4.2.2.copy hT e1
    have g : ∀ a b c, ¬ a = 0 → I3 a b c = I1 a b c := fun a b c q => f3 a b c (fun z => q z.1)
    have day : I3 8 0 13 = S1 9 0 := (g _ _ _ (by omega)).trans hS1.2.2.2.1
    rw [day]
    have f : ∀ a b c, ¬ (b = 0 ∧ (a = 8 ∨ a = 0 ∨ (31 ≤ a ∧ a ≤ 41))) → I3 a b c = I a b c := fun a b c q => (f3 a b c (by omega)).trans (e2.e (by omega))
    refine hK _ P1 ⟨t, h1.e (fun a b c q => f _ _ _ (by have := ctK8 q; omega)) (fun c => e4 _ _ _ (by simp)), e3, hS1.fr (fun a c q => g _ _ _ (by have := csK8 q; omega)), ?_, ⟨v3, by show 0 ≤ 20; omega, fun i hi => absurd (show i < 0 from hi) (by omega)⟩, h6.e (fun a c q => f _ _ _ (by omega)), h7.e (f _ _ _ (by omega)) (fun c => f _ _ _ (by omega)), ⟨(f _ _ _ (by omega)).trans h8.1, (f _ _ _ (by omega)).trans h8.2⟩, fun i hi => (f _ _ _ (by omega)).trans (h9 i hi)⟩ (frX_of (fun a b c q => f _ _ _ (by omega)))
    show RCi A.T A.im _ P1 t
    unfold RCi
    rw [im]
    exact ⟨(f _ _ _ (by omega)).trans h4.1, (e4 _ _ _ (by simp)).trans h4.2.1, h4.2.2.fr (fun a c q => f _ _ _ (by omega))⟩
