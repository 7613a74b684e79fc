-- feed
def shv : Nat → Int32
  | 0 => 24
  | 1 => 16
  | 2 => 8
  | 3 => 0
  | _ => -8
def byt (x : Int32) (k : Nat) : Int32 := (x >>> (shv k &&& 31)) &&& 255
theorem nar_byte (x : Int32) : vp_nar .byte x = x.toInt8.toInt32 := rfl
theorem byte255 (x : Int32) : vp_nar .byte (x.toInt8.toInt32) &&& 255 = x &&& 255 := by
  rw [nar_byte]
  have h : ∀ y : Int32, y.toInt8.toInt32.toBitVec = (y.toBitVec.signExtend 8).signExtend 32 := fun y => rfl
  apply Int32.toBitVec_inj.mp
  rw [Int32.toBitVec_and, Int32.toBitVec_and, h, h]
  apply BitVec.eq_of_getLsbD_eq
  intro i hi
  rw [BitVec.getLsbD_and, BitVec.getLsbD_and, BitVec.getLsbD_signExtend, BitVec.getLsbD_signExtend, BitVec.getLsbD_signExtend, BitVec.getLsbD_signExtend]
  have m : (255 : Int32).toBitVec.getLsbD i = decide (i < 8) := by
    have : ∀ i, i < 32 → (255 : Int32).toBitVec.getLsbD i = decide (i < 8) := by decide
    exact this i hi
  rw [m]
  by_cases q : i < 8
  · simp [q, hi]
  · simp [q]
def updP (A : aA) (tp' : Nat × (Nat → Int32)) : aA := (A.1, A.2.1, A.2.2.1, A.2.2.2.1, A.2.2.2.2.1, A.2.2.2.2.2.1, tp', A.2.2.2.2.2.2.2)
theorem RC.updP {A : aA} {I I' : zI} {P : zP} {tp' : Nat × (Nat → Int32)} (h : RC A I P) (e : ony (fun a c => a = 47 ∨ (a = 11 ∧ c = 13)) I I') (hO : RCp tp' I') : RC (updP A tp') I' P := by
  obtain ⟨t, h1, h2, h3, h4, h5, h6, h7, h8, h9⟩ := h
  exact ⟨t, h1.e (fun a b c q => e a b c (by have := ctK8 q; omega)) (fun _ => rfl), h2, h3.fr (fun a c q => e _ _ _ (by have := csK8 q; omega)), h4.e (e _ _ _ (by decide)) (fun a c q => e _ _ _ (by omega)) rfl, h5.cg (e _ _ _ (by omega)) (fun c => e _ _ _ (by omega)), h6.e (fun a c q => e _ _ _ (by omega)), hO, ⟨(e _ _ _ (by omega)).trans h8.1, (e _ _ _ (by omega)).trans h8.2⟩, fun i hi => (e _ _ _ (by omega)).trans (h9 i hi)⟩
theorem RR.updP {A : aA} {I I' : zI} {L : zJ} {tp' : Nat × (Nat → Int32)} (h : RR A I L) (e : ony (fun a c => a = 51 ∨ (a = 12 ∧ c = 1)) I I') (hO : I' 12 0 1 = nI tp'.1 ∧ ∀ i, i < tp'.1 → I' 51 0 i = tp'.2 i) : RR (updP A tp') I' L := by
  obtain ⟨h1, h2, h3, h4, h5, h6, h7, h8, h9, h10, h11⟩ := h
  exact ⟨h1.fr (fun a c q => e.lo (by have := rtK8 q; omega)), h2.fr (fun a c q => e.lo (by have := rsK8 q; omega)), h3.e (fun c _ _ => e.lo (by omega)), fun c hc => by rw [e.lo (by omega)]; exact h4 c hc, h5, h6.e (e.lo (by decide)) (fun a c q => e.lo (by omega)) rfl, ⟨(e.lo (by decide)).trans h7.1, fun i hi => (h7.2 i hi).q (fun c => e.lo (by omega))⟩, h8.e (e.lo (by decide)) (e.lo (by decide)) (fun c => e.lo (by omega)), hO, ⟨(e.lo (by decide)).trans h10.1, (e.lo (by decide)).trans h10.2⟩, fun i hi => (e.lo (by omega)).trans (h11 i hi)⟩
theorem p_putTape {K : zQ} {I : zI} {L : zJ} {P : zP} {n : Nat} {x : Int32} (hn : n + 4 ≤ 700) (hs : I 11 0 13 = nI n) (hK : ∀ I' : zI, ony (fun a c => (a = 47 ∧ n ≤ c) ∨ (a = 11 ∧ c = 13)) I I' → I' 11 0 13 = nI (n + 4) → (∀ k, k < 4 → I' 47 0 (n + k) &&& 255 = byt x k) → K [] (I', L, P)) : mX11_putOnTape K [kbR, .inl x] (I, L, P) := by
  show bX11_putOnTape_3 K [some kbR, some (.inl x), some (.inl 24)] [] (I, L, P)
  refine zinv 4 (fun i Z M => ∃ I' : zI, Z = [some kbR, some (.inl x), some (.inl (shv i))] ∧ M = (I', L, P) ∧ ony (fun a c => (a = 47 ∧ n ≤ c) ∨ (a = 11 ∧ c = 13)) I I' ∧ I' 11 0 13 = nI (n + i) ∧ ∀ k, k < i → I' 47 0 (n + k) &&& 255 = byt x k) ?_ ?_ ⟨I, rfl, rfl, ony.rf, hs, fun k hk => absurd hk (by omega)⟩
  · rintro i Z M hi ⟨I', rfl, rfl, hI, h1, h2⟩ self hself
    dsimp only [x_int, x_lng, x_ild, x_lld, x_ald, x_ist, x_ast, x_lst, x_inc, x_ii, x_id, x_i, x_ll, x_ld, x_l, x_cmp, x_i2l, x_l2i, x_if, x_ic, x_dup, x_pop, x_dup2, x_gI, x_gL, x_gR, x_g1, x_g0, x_gP, x_pI, x_pZ, x_pL, x_pP, x_al, x_as, x_all, x_asl, x_alr, x_len, x_cpy, x_m2, x_m1, x_m2l, x_m1l, x_call, x_cv, x_ri, x_rz, x_rl, x_rv, zg, zset, zbef, zlong, zcat, cond_true, cond_false, List.take, List.drop, rv1, rv2, rv3, rv4, rv5, rv6, rv7, sm0, sm1, bl0, bl1, bl2, bl3, bl4, bl5, bl6, bl7, bl8, List.nil_append, List.cons_append, List.length_cons, List.length_nil, Nat.reduceBEq, Nat.reduceAdd, Nat.reduceSub, ta, tb, tn0, tn1, tn2, tn3, tn4, tn5, tn6, tn7, tn8, tn9, tn10, tn11, tn12, zk_47, zl_47, bX11_putOnTape_46]
    rw [h1, n_cl (n := n + i) (by omega)]
    obtain ⟨J1, e1, j1, k1⟩ := zsI_ex I' L P 47 0 (n + i) (vp_nar .byte ((x >>> (shv i &&& 31)).toInt8.toInt32))
    rw [e1]
    dsimp only
    rw [k1 11 0 _ (by omega), h1, n_succ]
    obtain ⟨J2, e2, j2, k2⟩ := zsI_ex J1 L P 11 0 13 (nI (n + i + 1))
    rw [e2]
    have s1 : ∀ i, i < 4 → ¬ shv i < 0 := by decide
    have s2 : ∀ i, i < 4 → shv i + -8 = shv (i + 1) := by decide
    rw [s2 i hi]
    refine ⟨fun c => absurd c (s1 i hi), fun _ => ⟨fun c => absurd c (lt_go (n := 700) rfl (by omega) (by omega)), fun _ => ⟨n_zin (by omega) (by decide), hself _ _ ⟨J2, rfl, rfl, fun a b c q => ((k2 a b c (fun z => q ⟨z.2.1, by omega⟩)).trans (k1 a b c (fun z => q ⟨z.2.1, by omega⟩))).trans (hI a b c q), j2, fun k hk => ?_⟩⟩⟩⟩
    rw [k2 _ _ _ (by omega)]
    by_cases e : k = i
    · subst e
      rw [j1, byte255]; rfl
    · rw [k1 _ _ _ (by omega)]; exact h2 k (by omega)
  · rintro Z M ⟨I', rfl, rfl, hI, h1, h2⟩ self
    dsimp only [x_int, x_lng, x_ild, x_lld, x_ald, x_ist, x_ast, x_lst, x_inc, x_ii, x_id, x_i, x_ll, x_ld, x_l, x_cmp, x_i2l, x_l2i, x_if, x_ic, x_dup, x_pop, x_dup2, x_gI, x_gL, x_gR, x_g1, x_g0, x_gP, x_pI, x_pZ, x_pL, x_pP, x_al, x_as, x_all, x_asl, x_alr, x_len, x_cpy, x_m2, x_m1, x_m2l, x_m1l, x_call, x_cv, x_ri, x_rz, x_rl, x_rv, zg, zset, zbef, zlong, zcat, cond_true, cond_false, List.take, List.drop, rv1, rv2, rv3, rv4, rv5, rv6, rv7, sm0, sm1, bl0, bl1, bl2, bl3, bl4, bl5, bl6, bl7, bl8, List.nil_append, List.cons_append, List.length_cons, List.length_nil, Nat.reduceBEq, Nat.reduceAdd, Nat.reduceSub, ta, tb, tn0, tn1, tn2, tn3, tn4, tn5, tn6, tn7, tn8, tn9, tn10, tn11, tn12, bX11_putOnTape_46]
    exact ⟨fun _ => hK I' hI h1 h2, fun c => absurd (by decide) c⟩
def fdW (a b c d e : Int32) (k : Nat) : Int32 := if k < 4 then a else if k < 8 then b else if k < 12 then c else if k < 16 then d else e
def fdT (tp : Nat × (Nat → Int32)) (a b c d e : Int32) : Nat × (Nat → Int32) := (tp.1 + 20, fun i => if i < tp.1 then tp.2 i else byt (fdW a b c d e (i - tp.1)) ((i - tp.1) % 4))
def s_feed (A : aA) (a b c d e : Int32) : aA × Int32 := if A.tp.1 + 20 ≤ 700 then (updP A (fdT A.tp a b c d e), nI (A.tp.1 + 20)) else (A, -1)
theorem c_feed {K : zQ} {I : zI} {L : zJ} {P : zP} {A : aA} {a b c d e : Int32} (hC : RC A I P) (hK : ∀ (I' : zI), RC (s_feed A a b c d e).1 I' P → frX I I' L L → K [.inl (s_feed A a b c d e).2] (I', L, P)) : mX11_feed K [kbR, .inl a, .inl b, .inl c, .inl d, .inl e] (I, L, P) := by
  have hO : RCp A.tp I := by obtain ⟨t, -, -, -, -, -, -, hO, -⟩ := hC; exact hO
  have t7 := hO.2.1
  show bX11_feed_0 K [some (.inr (.inr (11,0))), some (.inl a), some (.inl b), some (.inl c), some (.inl d), some (.inl e)] [] (I, L, P)
  unfold bX11_feed_0
  dsimp only [x_int, x_lng, x_ild, x_lld, x_ald, x_ist, x_ast, x_lst, x_inc, x_ii, x_id, x_i, x_ll, x_ld, x_l, x_cmp, x_i2l, x_l2i, x_if, x_ic, x_dup, x_pop, x_dup2, x_gI, x_gL, x_gR, x_g1, x_g0, x_gP, x_pI, x_pZ, x_pL, x_pP, x_al, x_as, x_all, x_asl, x_alr, x_len, x_cpy, x_m2, x_m1, x_m2l, x_m1l, x_call, x_cv, x_ri, x_rz, x_rl, x_rv, zg, zset, zbef, zlong, zcat, cond_true, cond_false, List.take, List.drop, rv1, rv2, rv3, rv4, rv5, rv6, rv7, sm0, sm1, bl0, bl1, bl2, bl3, bl4, bl5, bl6, bl7, bl8, List.nil_append, List.cons_append, List.length_cons, List.length_nil, Nat.reduceBEq, Nat.reduceAdd, Nat.reduceSub, ta, tb, tn0, tn1, tn2, tn3, tn4, tn5, tn6, tn7, tn8, tn9, tn10, tn11, tn12]
  rw [hO.1, show nI A.tp.1 + 20 = nI (A.tp.1 + 20) from n_add _ 20]
  unfold s_feed at hK
  refine ⟨fun le => ?_, fun le => ?_⟩
  · rw [show (700 : Int32) = nI 700 from rfl, n_le (by omega) (by decide)] at le
    rw [if_pos le] at hK
    refine p_putTape (by omega) hO.1 (fun I1 f1 s1 b1 => ?_)
    dsimp only [x_int, x_lng, x_ild, x_lld, x_ald, x_ist, x_ast, x_lst, x_inc, x_ii, x_id, x_i, x_ll, x_ld, x_l, x_cmp, x_i2l, x_l2i, x_if, x_ic, x_dup, x_pop, x_dup2, x_gI, x_gL, x_gR, x_g1, x_g0, x_gP, x_pI, x_pZ, x_pL, x_pP, x_al, x_as, x_all, x_asl, x_alr, x_len, x_cpy, x_m2, x_m1, x_m2l, x_m1l, x_call, x_cv, x_ri, x_rz, x_rl, x_rv, zg, zset, zbef, zlong, zcat, cond_true, cond_false, List.take, List.drop, rv1, rv2, rv3, rv4, rv5, rv6, rv7, sm0, sm1, bl0, bl1, bl2, bl3, bl4, bl5, bl6, bl7, bl8, List.nil_append, List.cons_append, List.length_cons, List.length_nil, Nat.reduceBEq, Nat.reduceAdd, Nat.reduceSub, ta, tb, tn0, tn1, tn2, tn3, tn4, tn5, tn6, tn7, tn8, tn9, tn10, tn11, tn12]
    refine p_putTape (by omega) s1 (fun I2 f2 s2 b2 => ?_)
    dsimp only [x_int, x_lng, x_ild, x_lld, x_ald, x_ist, x_ast, x_lst, x_inc, x_ii, x_id, x_i, x_ll, x_ld, x_l, x_cmp, x_i2l, x_l2i, x_if, x_ic, x_dup, x_pop, x_dup2, x_gI, x_gL, x_gR, x_g1, x_g0, x_gP, x_pI, x_pZ, x_pL, x_pP, x_al, x_as, x_all, x_asl, x_alr, x_len, x_cpy, x_m2, x_m1, x_m2l, x_m1l, x_call, x_cv, x_ri, x_rz, x_rl, x_rv, zg, zset, zbef, zlong, zcat, cond_true, cond_false, List.take, List.drop, rv1, rv2, rv3, rv4, rv5, rv6, rv7, sm0, sm1, bl0, bl1, bl2, bl3, bl4, bl5, bl6, bl7, bl8, List.nil_append, List.cons_append, List.length_cons, List.length_nil, Nat.reduceBEq, Nat.reduceAdd, Nat.reduceSub, ta, tb, tn0, tn1, tn2, tn3, tn4, tn5, tn6, tn7, tn8, tn9, tn10, tn11, tn12]
    refine p_putTape (by omega) s2 (fun I3 f3 s3 b3 => ?_)
    dsimp only [x_int, x_lng, x_ild, x_lld, x_ald, x_ist, x_ast, x_lst, x_inc, x_ii, x_id, x_i, x_ll, x_ld, x_l, x_cmp, x_i2l, x_l2i, x_if, x_ic, x_dup, x_pop, x_dup2, x_gI, x_gL, x_gR, x_g1, x_g0, x_gP, x_pI, x_pZ, x_pL, x_pP, x_al, x_as, x_all, x_asl, x_alr, x_len, x_cpy, x_m2, x_m1, x_m2l, x_m1l, x_call, x_cv, x_ri, x_rz, x_rl, x_rv, zg, zset, zbef, zlong, zcat, cond_true, cond_false, List.take, List.drop, rv1, rv2, rv3, rv4, rv5, rv6, rv7, sm0, sm1, bl0, bl1, bl2, bl3, bl4, bl5, bl6, bl7, bl8, List.nil_append, List.cons_append, List.length_cons, List.length_nil, Nat.reduceBEq, Nat.reduceAdd, Nat.reduceSub, ta, tb, tn0, tn1, tn2, tn3, tn4, tn5, tn6, tn7, tn8, tn9, tn10, tn11, tn12]
    refine p_putTape (by omega) s3 (fun I4 f4 s4 b4 => ?_)
    dsimp only [x_int, x_lng, x_ild, x_lld, x_ald, x_ist, x_ast, x_lst, x_inc, x_ii, x_id, x_i, x_ll, x_ld, x_l, x_cmp, x_i2l, x_l2i, x_if, x_ic, x_dup, x_pop, x_dup2, x_gI, x_gL, x_gR, x_g1, x_g0, x_gP, x_pI, x_pZ, x_pL, x_pP, x_al, x_as, x_all, x_asl, x_alr, x_len, x_cpy, x_m2, x_m1, x_m2l, x_m1l, x_call, x_cv, x_ri, x_rz, x_rl, x_rv, zg, zset, zbef, zlong, zcat, cond_true, cond_false, List.take, List.drop, rv1, rv2, rv3, rv4, rv5, rv6, rv7, sm0, sm1, bl0, bl1, bl2, bl3, bl4, bl5, bl6, bl7, bl8, List.nil_append, List.cons_append, List.length_cons, List.length_nil, Nat.reduceBEq, Nat.reduceAdd, Nat.reduceSub, ta, tb, tn0, tn1, tn2, tn3, tn4, tn5, tn6, tn7, tn8, tn9, tn10, tn11, tn12]
    refine p_putTape (by omega) s4 (fun I5 f5 s5 b5 => ?_)
    dsimp only [x_int, x_lng, x_ild, x_lld, x_ald, x_ist, x_ast, x_lst, x_inc, x_ii, x_id, x_i, x_ll, x_ld, x_l, x_cmp, x_i2l, x_l2i, x_if, x_ic, x_dup, x_pop, x_dup2, x_gI, x_gL, x_gR, x_g1, x_g0, x_gP, x_pI, x_pZ, x_pL, x_pP, x_al, x_as, x_all, x_asl, x_alr, x_len, x_cpy, x_m2, x_m1, x_m2l, x_m1l, x_call, x_cv, x_ri, x_rz, x_rl, x_rv, zg, zset, zbef, zlong, zcat, cond_true, cond_false, List.take, List.drop, rv1, rv2, rv3, rv4, rv5, rv6, rv7, sm0, sm1, bl0, bl1, bl2, bl3, bl4, bl5, bl6, bl7, bl8, List.nil_append, List.cons_append, List.length_cons, List.length_nil, Nat.reduceBEq, Nat.reduceAdd, Nat.reduceSub, ta, tb, tn0, tn1, tn2, tn3, tn4, tn5, tn6, tn7, tn8, tn9, tn10, tn11, tn12]
    rw [s5]
    have fr : ony (fun a c => a = 47 ∨ (a = 11 ∧ c = 13)) I I5 := fun a b c q => ((((f5 a b c (fun z => q ⟨z.1, by omega⟩)).trans (f4 a b c (fun z => q ⟨z.1, by omega⟩))).trans (f3 a b c (fun z => q ⟨z.1, by omega⟩))).trans (f2 a b c (fun z => q ⟨z.1, by omega⟩))).trans (f1 a b c (fun z => q ⟨z.1, by omega⟩))
    refine hK I5 (hC.updP fr ⟨s5, by show A.tp.1 + 20 ≤ 700; omega, fun i hi => ?_⟩) (frX_of (fun a b c q => fr a b c (by omega)))
    have hi : i < A.tp.1 + 20 := hi
    show _ = if i < A.tp.1 then A.tp.2 i else byt (fdW a b c d e (i - A.tp.1)) ((i - A.tp.1) % 4)
    by_cases z : i < A.tp.1
    · rw [if_pos z, f5.lo (by omega), f4.lo (by omega), f3.lo (by omega), f2.lo (by omega), f1.lo (by omega)]; exact hO.2.2 i z
    · rw [if_neg z]
      unfold fdW
      by_cases z1 : i < A.tp.1 + 4
      · rw [if_pos (by omega), show (i - A.tp.1) % 4 = i - A.tp.1 by omega, f5.lo (by omega), f4.lo (by omega), f3.lo (by omega), f2.lo (by omega), ← b1 _ (by omega), show A.tp.1 + (i - A.tp.1) = i by omega]
      · by_cases z2 : i < A.tp.1 + 8
        · rw [if_neg (by omega), if_pos (by omega), show (i - A.tp.1) % 4 = i - A.tp.1 - 4 by omega, f5.lo (by omega), f4.lo (by omega), f3.lo (by omega), ← b2 _ (by omega), show A.tp.1 + 4 + (i - A.tp.1 - 4) = i by omega]
        · by_cases z3 : i < A.tp.1 + 12
          · rw [if_neg (by omega), if_neg (by omega), if_pos (by omega), show (i - A.tp.1) % 4 = i - A.tp.1 - 8 by omega, f5.lo (by omega), f4.lo (by omega), ← b3 _ (by omega), show A.tp.1 + 4 + 4 + (i - A.tp.1 - 8) = i by omega]
          · by_cases z4 : i < A.tp.1 + 16
            · rw [if_neg (by omega), if_neg (by omega), if_neg (by omega), if_pos (by omega), show (i - A.tp.1) % 4 = i - A.tp.1 - 12 by omega, f5.lo (by omega), ← b4 _ (by omega), show A.tp.1 + 4 + 4 + 4 + (i - A.tp.1 - 12) = i by omega]
            · rw [if_neg (by omega), if_neg (by omega), if_neg (by omega), if_neg (by omega), show (i - A.tp.1) % 4 = i - A.tp.1 - 16 by omega, ← b5 _ (by omega), show A.tp.1 + 4 + 4 + 4 + 4 + (i - A.tp.1 - 16) = i by omega]
  · rw [show (700 : Int32) = nI 700 from rfl, n_le (by omega) (by decide)] at le
    rw [if_neg le] at hK
    exact hK I hC frX.rf
theorem r_feed {K : zQ} {I : zI} {L : zJ} {P : zP} {A : aA} {a b c d e : Int32} (t7 : A.tp.1 ≤ 700) (hR : RR A I L) (hK : ∀ (I' : zI), RR (s_feed A a b c d e).1 I' L → frY I I' → K [.inl (s_feed A a b c d e).2] (I', L, P)) : mX12_feed K [refR, .inl a, .inl b, .inl c, .inl d, .inl e] (I, L, P) := by
  show bX12_feed_0 K [some (.inr (.inr (12,0))), some (.inl a), some (.inl b), some (.inl c), some (.inl d), some (.inl e), none, none] [] (I, L, P)
  unfold bX12_feed_0
  obtain ⟨I1, e9, hR1, f1⟩ := r_thr P hR
  dsimp only [x_ald, x_int, x_pI, zg, Nat.reduceBEq, cond_true]
  rw [e9]
  have hO := hR1.2.2.2.2.2.2.2.2.1
  dsimp only [x_int, x_lng, x_ild, x_lld, x_ald, x_ist, x_ast, x_lst, x_inc, x_ii, x_id, x_i, x_ll, x_ld, x_l, x_cmp, x_i2l, x_l2i, x_if, x_ic, x_dup, x_pop, x_dup2, x_gI, x_gL, x_gR, x_g1, x_g0, x_gP, x_pI, x_pZ, x_pL, x_pP, x_al, x_as, x_all, x_asl, x_alr, x_len, x_cpy, x_m2, x_m1, x_m2l, x_m1l, x_call, x_cv, x_ri, x_rz, x_rl, x_rv, zg, zset, zbef, zlong, zcat, cond_true, cond_false, List.take, List.drop, rv1, rv2, rv3, rv4, rv5, rv6, rv7, sm0, sm1, bl0, bl1, bl2, bl3, bl4, bl5, bl6, bl7, bl8, List.nil_append, List.cons_append, List.length_cons, List.length_nil, Nat.reduceBEq, Nat.reduceAdd, Nat.reduceSub, ta, tb, tn0, tn1, tn2, tn3, tn4, tn5, tn6, tn7, tn8, tn9, tn10, tn11, tn12]
  rw [hO.1, show nI A.tp.1 + 20 = nI (A.tp.1 + 20) from n_add _ 20]
  unfold s_feed at hK
  refine ⟨fun le => ?_, fun le => ?_⟩
  · rw [show (700 : Int32) = nI 700 from rfl, n_le (by omega) (by decide)] at le
    rw [if_pos le] at hK
    refine zinv 20 (fun k Z M => ∃ (I' : zI) (z7 : Option zV), Z = [some refR, some (.inl a), some (.inl b), some (.inl c), some (.inl d), some (.inl e), some (.inl (nI k)), z7] ∧ M = (I', L, P) ∧ ony (fun a c => a = 51 ∧ A.tp.1 ≤ c) I1 I' ∧ wr I' 51 A.tp.1 k (fun k => byt (fdW a b c d e k) (k % 4))) ?_ ?_ ⟨I1, none, rfl, rfl, ony.rf, wr.z⟩
    · rintro k Z M hk ⟨I', z7, rfl, rfl, hI, h1⟩ self hself
      have s1 : I' 12 0 1 = nI A.tp.1 := (hI.lo (by omega)).trans hO.1
      have sh : ∀ k, k < 20 → (24 : Int32) - 8 * (nI k - nI k / 4 * 4) = shv (k % 4) := by decide +kernel
      have go : ∀ v : Int32, v = fdW a b c d e k → bX12_feed_76 K self [some refR, some (.inl a), some (.inl b), some (.inl c), some (.inl d), some (.inl e), some (.inl (nI k)), z7] [.inl v] (I', L, P) := fun v hv => by
        unfold bX12_feed_76
        dsimp only [x_int, x_lng, x_ild, x_lld, x_ald, x_ist, x_ast, x_lst, x_inc, x_ii, x_id, x_i, x_ll, x_ld, x_l, x_cmp, x_i2l, x_l2i, x_if, x_ic, x_dup, x_pop, x_dup2, x_gI, x_gL, x_gR, x_g1, x_g0, x_gP, x_pI, x_pZ, x_pL, x_pP, x_al, x_as, x_all, x_asl, x_alr, x_len, x_cpy, x_m2, x_m1, x_m2l, x_m1l, x_call, x_cv, x_ri, x_rz, x_rl, x_rv, zg, zset, zbef, zlong, zcat, cond_true, cond_false, List.take, List.drop, rv1, rv2, rv3, rv4, rv5, rv6, rv7, sm0, sm1, bl0, bl1, bl2, bl3, bl4, bl5, bl6, bl7, bl8, List.nil_append, List.cons_append, List.length_cons, List.length_nil, Nat.reduceBEq, Nat.reduceAdd, Nat.reduceSub, ta, tb, tn0, tn1, tn2, tn3, tn4, tn5, tn6, tn7, tn8, tn9, tn10, tn11, tn12, zk_51, zl_51]
        rw [s1, n_add, n_cl (n := A.tp.1 + k) (by omega), sh k hk, n_succ k]
        exact ⟨by decide, n_zin (by omega) (by decide), hself _ _ ⟨(zsI (I', L, P) 51 0 (A.tp.1 + k) ((v >>> (shv (k % 4) &&& 31)) &&& 255)).1, _, rfl, rfl, hI.set ⟨rfl, by omega⟩, wr.set h1 rfl (by rw [hv]; rfl)⟩⟩
      dsimp only [x_int, x_lng, x_ild, x_lld, x_ald, x_ist, x_ast, x_lst, x_inc, x_ii, x_id, x_i, x_ll, x_ld, x_l, x_cmp, x_i2l, x_l2i, x_if, x_ic, x_dup, x_pop, x_dup2, x_gI, x_gL, x_gR, x_g1, x_g0, x_gP, x_pI, x_pZ, x_pL, x_pP, x_al, x_as, x_all, x_asl, x_alr, x_len, x_cpy, x_m2, x_m1, x_m2l, x_m1l, x_call, x_cv, x_ri, x_rz, x_rl, x_rv, zg, zset, zbef, zlong, zcat, cond_true, cond_false, List.take, List.drop, rv1, rv2, rv3, rv4, rv5, rv6, rv7, sm0, sm1, bl0, bl1, bl2, bl3, bl4, bl5, bl6, bl7, bl8, List.nil_append, List.cons_append, List.length_cons, List.length_nil, Nat.reduceBEq, Nat.reduceAdd, Nat.reduceSub, ta, tb, tn0, tn1, tn2, tn3, tn4, tn5, tn6, tn7, tn8, tn9, tn10, tn11, tn12]
      unfold fdW at go
      have le : ∀ q : Nat, q < 2147483648 → (nI q ≤ nI k ↔ q ≤ k) := fun q hq => n_le hq (by omega)
      refine ⟨fun c => absurd c (lt_go (n := 20) rfl (by omega) hk), fun _ => ⟨fun c1 => ⟨fun c2 => ⟨fun c3 => ⟨fun c4 => go e ?_, fun c4 => go d ?_⟩, fun c3 => go c ?_⟩, fun c2 => go b ?_⟩, fun c1 => go a ?_⟩⟩
      · have c1 := (le 4 (by decide)).mp c1
        have c2 := (le 8 (by decide)).mp c2
        have c3 := (le 12 (by decide)).mp c3
        have c4 := (le 16 (by decide)).mp c4
        rw [if_neg (by omega), if_neg (by omega), if_neg (by omega), if_neg (by omega)]
      · have c1 := (le 4 (by decide)).mp c1
        have c2 := (le 8 (by decide)).mp c2
        have c3 := (le 12 (by decide)).mp c3
        have c4 : ¬ 16 ≤ k := fun q => c4 ((le 16 (by decide)).mpr q)
        rw [if_neg (by omega), if_neg (by omega), if_neg (by omega), if_pos (by omega)]
      · have c1 := (le 4 (by decide)).mp c1
        have c2 := (le 8 (by decide)).mp c2
        have c3 : ¬ 12 ≤ k := fun q => c3 ((le 12 (by decide)).mpr q)
        rw [if_neg (by omega), if_neg (by omega), if_pos (by omega)]
      · have c1 := (le 4 (by decide)).mp c1
        have c2 : ¬ 8 ≤ k := fun q => c2 ((le 8 (by decide)).mpr q)
        rw [if_neg (by omega), if_pos (by omega)]
      · have c1 : ¬ 4 ≤ k := fun q => c1 ((le 4 (by decide)).mpr q)
        rw [if_pos (by omega)]
    · rintro Z M ⟨I', z7, rfl, rfl, hI, h1⟩ self
      have s1 : I' 12 0 1 = nI A.tp.1 := (hI.lo (by omega)).trans hO.1
      dsimp only [x_int, x_lng, x_ild, x_lld, x_ald, x_ist, x_ast, x_lst, x_inc, x_ii, x_id, x_i, x_ll, x_ld, x_l, x_cmp, x_i2l, x_l2i, x_if, x_ic, x_dup, x_pop, x_dup2, x_gI, x_gL, x_gR, x_g1, x_g0, x_gP, x_pI, x_pZ, x_pL, x_pP, x_al, x_as, x_all, x_asl, x_alr, x_len, x_cpy, x_m2, x_m1, x_m2l, x_m1l, x_call, x_cv, x_ri, x_rz, x_rl, x_rv, zg, zset, zbef, zlong, zcat, cond_true, cond_false, List.take, List.drop, rv1, rv2, rv3, rv4, rv5, rv6, rv7, sm0, sm1, bl0, bl1, bl2, bl3, bl4, bl5, bl6, bl7, bl8, List.nil_append, List.cons_append, List.length_cons, List.length_nil, Nat.reduceBEq, Nat.reduceAdd, Nat.reduceSub, ta, tb, tn0, tn1, tn2, tn3, tn4, tn5, tn6, tn7, tn8, tn9, tn10, tn11, tn12]
      rw [s1, show nI A.tp.1 + 20 = nI (A.tp.1 + 20) from n_add _ 20]
      obtain ⟨J, e1, j1, k1⟩ := zsI_ex I' L P 12 0 1 (nI (A.tp.1 + 20))
      rw [e1]
      dsimp only
      rw [j1]
      have fr : ony (fun a c => a = 51 ∨ (a = 12 ∧ c = 1)) I1 J := fun a b c q => (k1 a b c (fun z => q ⟨z.2.1, by omega⟩)).trans (hI a b c (fun z => q ⟨z.1, by omega⟩))
      refine ⟨fun _ => hK J (hR1.updP fr ⟨j1, fun i hi => ?_⟩) (f1.Y.tr (ony_Y fr (by omega))), fun c => absurd c (lt_out (n := 20) rfl)⟩
      have hi : i < A.tp.1 + 20 := hi
      show _ = if i < A.tp.1 then A.tp.2 i else byt (fdW a b c d e (i - A.tp.1)) ((i - A.tp.1) % 4)
      rw [k1 _ _ _ (by omega)]
      by_cases z : i < A.tp.1
      · rw [if_pos z, hI.lo (by omega)]; exact hO.2 i z
      · have := h1 (i - A.tp.1) (by omega)
        rw [show A.tp.1 + (i - A.tp.1) = i by omega] at this
        rw [if_neg z]; exact this
  · rw [show (700 : Int32) = nI 700 from rfl, n_le (by omega) (by decide)] at le
    rw [if_neg le] at hK
    exact hK I1 hR1 f1.Y
