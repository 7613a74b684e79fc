theorem wi_rng {v : Int64} {o m : Int32} (hm : 0 ≤ m) : 0 ≤ wi v o m ∧ wi v o m ≤ m := by
  by_cases h : v = zER
  · rw [h, wi_er hm]
    unfold clm
    by_cases h1 : o < 0
    · rw [if_pos h1]; exact ⟨Int32.le_refl _, hm⟩
    · rw [if_neg h1]
      by_cases h2 : m < o
      · rw [if_pos h2]; exact ⟨hm, Int32.le_refl _⟩
      · rw [if_neg h2]; exact ⟨Int32.not_lt.mp h1, Int32.not_lt.mp h2⟩
  · rw [wi_ok hm h]
    by_cases h1 : v < 0
    · rw [if_pos h1]; exact ⟨Int32.le_refl _, hm⟩
    · rw [if_neg h1]
      by_cases h2 : m.toInt64 < v
      · rw [if_pos h2]; exact ⟨hm, Int32.le_refl _⟩
      · rw [if_neg h2]
        have a := Int64.le_iff_toInt_le.mp (Int64.not_lt.mp h1)
        have b := Int64.le_iff_toInt_le.mp (Int64.not_lt.mp h2)
        have l0 : (0 : Int64).toInt = 0 := rfl
        have e0 : (0 : Int32).toInt = 0 := rfl
        rw [Int32.toInt_toInt64] at b
        have mx := Int32.toInt_lt m
        have e : v.toInt32.toInt = v.toInt := by
          rw [Int64.toInt_toInt32]
          exact Int.bmod_eq_of_le (by omega) (by omega)
        constructor
        · rw [Int32.le_iff_toInt_le, e]; omega
        · rw [Int32.le_iff_toInt_le, e]; omega
abbrev zeLr (L L' : zJ) : Prop := ∀ a b c, a ≠ 74 → a ≠ 75 → L' a b c = L a b c
def rsK (a c : Nat) : Bool := (Nat.ble 76 a && Nat.ble a 86) || (a == 57 || (a == 61 || (a == 54 || (a == 12 && (Nat.ble 64 c && Nat.ble c 67)))))
theorem RS.fr {M M' : zI} {b : Nat} {T : aT} {S : aS} (h : RS M b T S) (e : ∀ a c, rsK a c = true → M' a 0 c = M a 0 c) : RS M' b T S := by
  have e76 : ∀ c, M' 76 0 c = M 76 0 c := fun c => e 76 c rfl
  have e77 : ∀ c, M' 77 0 c = M 77 0 c := fun c => e 77 c rfl
  have e78 : ∀ c, M' 78 0 c = M 78 0 c := fun c => e 78 c rfl
  have e79 : ∀ c, M' 79 0 c = M 79 0 c := fun c => e 79 c rfl
  have e80 : ∀ c, M' 80 0 c = M 80 0 c := fun c => e 80 c rfl
  have e81 : ∀ c, M' 81 0 c = M 81 0 c := fun c => e 81 c rfl
  have e82 : ∀ c, M' 82 0 c = M 82 0 c := fun c => e 82 c rfl
  have e83 : ∀ c, M' 83 0 c = M 83 0 c := fun c => e 83 c rfl
  have e84 : ∀ c, M' 84 0 c = M 84 0 c := fun c => e 84 c rfl
  have e85 : ∀ c, M' 85 0 c = M 85 0 c := fun c => e 85 c rfl
  have e86 : ∀ c, M' 86 0 c = M 86 0 c := fun c => e 86 c rfl
  have e57 : ∀ c, M' 57 0 c = M 57 0 c := fun c => e 57 c rfl
  have e61 : ∀ c, M' 61 0 c = M 61 0 c := fun c => e 61 c rfl
  have e54 : ∀ c, M' 54 0 c = M 54 0 c := fun c => e 54 c rfl
  have f1 : M' 12 0 64 = M 12 0 64 := e 12 _ rfl
  have f2 : M' 12 0 65 = M 12 0 65 := e 12 _ rfl
  have f3 : M' 12 0 66 = M 12 0 66 := e 12 _ rfl
  have f4 : M' 12 0 67 = M 12 0 67 := e 12 _ rfl
  unfold RS coldR agedR hardR likeR at h ⊢
  simp only [e76, e77, e78, e79, e80, e81, e82, e83, e84, e85, e86, e57, e61, e54, f1, f2, f3, f4]
  exact h
theorem frE.RT {I I' : zI} {T : aT} (h : frE I I') (hT : RT I T) : RT I' T := hT.fr (fun a c q => h a 0 c (fun e => by rw [e.1, e.2.2] at q; exact absurd q (by decide)))
theorem frE.RS {I I' : zI} {b : Nat} {T : aT} {S : aS} (h : frE I I') (hS : RS I b T S) : RS I' b T S := hS.fr (fun a c q => h a 0 c (fun e => by rw [e.1, e.2.2] at q; exact absurd q (by decide)))
theorem p_within12 {K : zQ} {M : zM} {o m : Int32} (hK : K [.inl (clm o m)] M) : mX12_within K [.inl o, .inl m] M := by
  unfold clm at hK
  show bX12_within_0 K [some (.inl o), some (.inl m)] [] M
  unfold bX12_within_0
  dsimp only [x_int, x_lng, x_ild, x_lld, x_ald, x_ist, x_ast, x_lst, x_inc, x_ii, x_id, x_i, x_ll, x_ld, x_l, x_cmp, x_i2l, x_l2i, x_if, x_ic, x_dup, x_pop, x_dup2, x_gI, x_gL, x_gR, x_g1, x_g0, x_gP, x_pI, x_pZ, x_pL, x_pP, x_al, x_as, x_all, x_asl, x_alr, x_len, x_cpy, x_m2, x_m1, x_m2l, x_m1l, x_call, x_cv, x_ri, x_rz, x_rl, x_rv, zg, zset, zbef, zlong, zcat, cond_true, cond_false, List.take, List.drop, rv1, rv2, rv3, rv4, rv5, rv6, rv7, sm0, sm1, bl0, bl1, bl2, bl3, bl4, bl5, bl6, bl7, bl8, List.nil_append, List.cons_append, List.length_cons, List.length_nil, Nat.reduceBEq, Nat.reduceAdd, Nat.reduceSub, ta, tb, tn0, tn1, tn2, tn3, tn4, tn5, tn6, tn7, tn8, tn9, tn10, tn11, tn12, bX12_within_18]
  refine ⟨fun c => ⟨fun d => ?_, fun d => ?_⟩, fun c => ?_⟩
  · rw [if_neg (Int32.not_lt.mpr c), if_neg (Int32.not_lt.mpr d)] at hK; exact hK
  · rw [if_neg (Int32.not_lt.mpr c), if_pos (Int32.not_le.mp d)] at hK; exact hK
  · rw [if_pos (Int32.not_le.mp c)] at hK; exact hK
theorem p_shakeOf {K : zQ} {I : zI} {L : zJ} {P : zP} {b : Nat} {T : aT} {S : aS} {h w k : Nat} (hb : b < 2) (hT : RT I T) (hS : RS I b T S) (hh : h < T.1 0) (hw : w < T.1 1) (hk : k < 6) (hK : ∀ (I' : zI) (L' : zJ), frE I I' → zeLr L L' → K [.inl (shk T S h w k)] (I', L', P)) : mX12_shakeOf K [.inr (.inr (12, 0)), .inl (nI b), .inl (nI h), .inl (nI w), .inl (nI k)] (I, L, P) := by
  have h6 := hT.h6
  have w4 := hT.w4
  show bX12_shakeOf_0 K [some (.inr (.inr (12,0))), some (.inl (nI b)), some (.inl (nI h)), some (.inl (nI w)), some (.inl (nI k))] [] (I, L, P)
  unfold bX12_shakeOf_0
  dsimp only [x_int, x_lng, x_ild, x_lld, x_ald, x_ist, x_ast, x_lst, x_inc, x_ii, x_id, x_i, x_ll, x_ld, x_l, x_cmp, x_i2l, x_l2i, x_if, x_ic, x_dup, x_pop, x_dup2, x_gI, x_gL, x_gR, x_g1, x_g0, x_gP, x_pI, x_pZ, x_pL, x_pP, x_al, x_as, x_all, x_asl, x_alr, x_len, x_cpy, x_m2, x_m1, x_m2l, x_m1l, x_call, x_cv, x_ri, x_rz, x_rl, x_rv, zg, zset, zbef, zlong, zcat, cond_true, cond_false, List.take, List.drop, rv1, rv2, rv3, rv4, rv5, rv6, rv7, sm0, sm1, bl0, bl1, bl2, bl3, bl4, bl5, bl6, bl7, bl8, List.nil_append, List.cons_append, List.length_cons, List.length_nil, Nat.reduceBEq, Nat.reduceAdd, Nat.reduceSub, ta, tb, tn0, tn1, tn2, tn3, tn4, tn5, tn6, tn7, tn8, tn9, tn10, tn11, tn12, zk_58, zl_58]
  rw [n6, n_cl (n := 6 * h + k) (by omega), (hT.hand hh).2.2.2 k hk]
  refine ⟨n_zin (by omega) (by decide), p_layNames hb (by omega) (by omega) (fun L1 e1 n1 => ?_)⟩
  rw [nmv_R hS hh hw] at n1
  dsimp only [x_int, x_lng, x_ild, x_lld, x_ald, x_ist, x_ast, x_lst, x_inc, x_ii, x_id, x_i, x_ll, x_ld, x_l, x_cmp, x_i2l, x_l2i, x_if, x_ic, x_dup, x_pop, x_dup2, x_gI, x_gL, x_gR, x_g1, x_g0, x_gP, x_pI, x_pZ, x_pL, x_pP, x_al, x_as, x_all, x_asl, x_alr, x_len, x_cpy, x_m2, x_m1, x_m2l, x_m1l, x_call, x_cv, x_ri, x_rz, x_rl, x_rv, zg, zset, zbef, zlong, zcat, cond_true, cond_false, List.take, List.drop, rv1, rv2, rv3, rv4, rv5, rv6, rv7, sm0, sm1, bl0, bl1, bl2, bl3, bl4, bl5, bl6, bl7, bl8, List.nil_append, List.cons_append, List.length_cons, List.length_nil, Nat.reduceBEq, Nat.reduceAdd, Nat.reduceSub, ta, tb, tn0, tn1, tn2, tn3, tn4, tn5, tn6, tn7, tn8, tn9, tn10, tn11, tn12]
  refine p_coldIn hb (by omega) ?_
  dsimp only [x_int, x_lng, x_ild, x_lld, x_ald, x_ist, x_ast, x_lst, x_inc, x_ii, x_id, x_i, x_ll, x_ld, x_l, x_cmp, x_i2l, x_l2i, x_if, x_ic, x_dup, x_pop, x_dup2, x_gI, x_gL, x_gR, x_g1, x_g0, x_gP, x_pI, x_pZ, x_pL, x_pP, x_al, x_as, x_all, x_asl, x_alr, x_len, x_cpy, x_m2, x_m1, x_m2l, x_m1l, x_call, x_cv, x_ri, x_rz, x_rl, x_rv, zg, zset, zbef, zlong, zcat, cond_true, cond_false, List.take, List.drop, rv1, rv2, rv3, rv4, rv5, rv6, rv7, sm0, sm1, bl0, bl1, bl2, bl3, bl4, bl5, bl6, bl7, bl8, List.nil_append, List.cons_append, List.length_cons, List.length_nil, Nat.reduceBEq, Nat.reduceAdd, Nat.reduceSub, ta, tb, tn0, tn1, tn2, tn3, tn4, tn5, tn6, tn7, tn8, tn9, tn10, tn11, tn12]
  refine p_agedOf (by omega) ?_
  dsimp only [x_int, x_lng, x_ild, x_lld, x_ald, x_ist, x_ast, x_lst, x_inc, x_ii, x_id, x_i, x_ll, x_ld, x_l, x_cmp, x_i2l, x_l2i, x_if, x_ic, x_dup, x_pop, x_dup2, x_gI, x_gL, x_gR, x_g1, x_g0, x_gP, x_pI, x_pZ, x_pL, x_pP, x_al, x_as, x_all, x_asl, x_alr, x_len, x_cpy, x_m2, x_m1, x_m2l, x_m1l, x_call, x_cv, x_ri, x_rz, x_rl, x_rv, zg, zset, zbef, zlong, zcat, cond_true, cond_false, List.take, List.drop, rv1, rv2, rv3, rv4, rv5, rv6, rv7, sm0, sm1, bl0, bl1, bl2, bl3, bl4, bl5, bl6, bl7, bl8, List.nil_append, List.cons_append, List.length_cons, List.length_nil, Nat.reduceBEq, Nat.reduceAdd, Nat.reduceSub, ta, tb, tn0, tn1, tn2, tn3, tn4, tn5, tn6, tn7, tn8, tn9, tn10, tn11, tn12]
  refine ⟨by decide, p_hardOf (by omega) ?_⟩
  dsimp only [x_int, x_lng, x_ild, x_lld, x_ald, x_ist, x_ast, x_lst, x_inc, x_ii, x_id, x_i, x_ll, x_ld, x_l, x_cmp, x_i2l, x_l2i, x_if, x_ic, x_dup, x_pop, x_dup2, x_gI, x_gL, x_gR, x_g1, x_g0, x_gP, x_pI, x_pZ, x_pL, x_pP, x_al, x_as, x_all, x_asl, x_alr, x_len, x_cpy, x_m2, x_m1, x_m2l, x_m1l, x_call, x_cv, x_ri, x_rz, x_rl, x_rv, zg, zset, zbef, zlong, zcat, cond_true, cond_false, List.take, List.drop, rv1, rv2, rv3, rv4, rv5, rv6, rv7, sm0, sm1, bl0, bl1, bl2, bl3, bl4, bl5, bl6, bl7, bl8, List.nil_append, List.cons_append, List.length_cons, List.length_nil, Nat.reduceBEq, Nat.reduceAdd, Nat.reduceSub, ta, tb, tn0, tn1, tn2, tn3, tn4, tn5, tn6, tn7, tn8, tn9, tn10, tn11, tn12]
  refine p_within12 ?_
  dsimp only [x_int, x_lng, x_ild, x_lld, x_ald, x_ist, x_ast, x_lst, x_inc, x_ii, x_id, x_i, x_ll, x_ld, x_l, x_cmp, x_i2l, x_l2i, x_if, x_ic, x_dup, x_pop, x_dup2, x_gI, x_gL, x_gR, x_g1, x_g0, x_gP, x_pI, x_pZ, x_pL, x_pP, x_al, x_as, x_all, x_asl, x_alr, x_len, x_cpy, x_m2, x_m1, x_m2l, x_m1l, x_call, x_cv, x_ri, x_rz, x_rl, x_rv, zg, zset, zbef, zlong, zcat, cond_true, cond_false, List.take, List.drop, rv1, rv2, rv3, rv4, rv5, rv6, rv7, sm0, sm1, bl0, bl1, bl2, bl3, bl4, bl5, bl6, bl7, bl8, List.nil_append, List.cons_append, List.length_cons, List.length_nil, Nat.reduceBEq, Nat.reduceAdd, Nat.reduceSub, ta, tb, tn0, tn1, tn2, tn3, tn4, tn5, tn6, tn7, tn8, tn9, tn10, tn11, tn12]
  obtain ⟨a1, a2, a3⟩ := hS.1 h hh
  rw [a1, a3, (hS.2.1 w hw).1]
  refine p_boundLaw (w := 0) (T := T) (o := 8 * S 0 h + S 11 h / 5 - 5 * S 12 w) (nm := anm S h w (T.2.1 3 (6 * h + k)) (nI k)) (by decide) (hT.law (by decide)) n1 (fun q _ => nmv_inB q) (by decide) rfl (fun I2 L2 hI2 hL2 => ?_)
  dsimp only [x_int, x_lng, x_ild, x_lld, x_ald, x_ist, x_ast, x_lst, x_inc, x_ii, x_id, x_i, x_ll, x_ld, x_l, x_cmp, x_i2l, x_l2i, x_if, x_ic, x_dup, x_pop, x_dup2, x_gI, x_gL, x_gR, x_g1, x_g0, x_gP, x_pI, x_pZ, x_pL, x_pP, x_al, x_as, x_all, x_asl, x_alr, x_len, x_cpy, x_m2, x_m1, x_m2l, x_m1l, x_call, x_cv, x_ri, x_rz, x_rl, x_rv, zg, zset, zbef, zlong, zcat, cond_true, cond_false, List.take, List.drop, rv1, rv2, rv3, rv4, rv5, rv6, rv7, sm0, sm1, bl0, bl1, bl2, bl3, bl4, bl5, bl6, bl7, bl8, List.nil_append, List.cons_append, List.length_cons, List.length_nil, Nat.reduceBEq, Nat.reduceAdd, Nat.reduceSub, ta, tb, tn0, tn1, tn2, tn3, tn4, tn5, tn6, tn7, tn8, tn9, tn10, tn11, tn12]
  exact hK I2 L2 hI2 (fun a b c q1 q2 => (hL2 a b c q2).trans (e1 a b c q1))
-- numbers that are drawn
theorem nx_n {k : Nat} (hk : k < 2147483648) : nx (nI k) = nI ((k * 1103515245 + 12345) % 2147483648) := by
  unfold nx
  rw [show (1103515245 : Int32) = nI 1103515245 from rfl, show (12345 : Int32) = nI 12345 from rfl, n_mul, n_add, pk_and _ 31 (by decide)]
  have e : (nI (k * 1103515245 + 12345)).toBitVec.toNat % 2 ^ 31 = (k * 1103515245 + 12345) % 2147483648 := by
    show (BitVec.ofNat 32 (k * 1103515245 + 12345)).toNat % 2 ^ 31 = _
    rw [BitVec.toNat_ofNat, Nat.mod_mod_of_dvd _ (by decide)]
  rw [e]
theorem lx_n {k : Nat} (hk : k < 2147483648) : (lN k * 1103515245 + 12345) &&& 2147483647 = lN ((k * 1103515245 + 12345) % 2147483648) := by
  rw [show (1103515245 : Int64) = lN 1103515245 from rfl, show (12345 : Int64) = lN 12345 from rfl, lN_mul, lN_add]
  apply Int64.toBitVec_inj.mp
  apply BitVec.eq_of_toNat_eq
  rw [Int64.toBitVec_and, BitVec.toNat_and]
  show (BitVec.ofNat 64 (k * 1103515245 + 12345)).toNat &&& 2147483647 = (BitVec.ofNat 64 _).toNat
  rw [BitVec.toNat_ofNat, BitVec.toNat_ofNat, show (2147483647 : Nat) = 2 ^ 31 - 1 from rfl, Nat.and_two_pow_sub_one_eq_mod, Nat.mod_mod_of_dvd _ (by decide)]
  exact (Nat.mod_eq_of_lt (Nat.lt_of_lt_of_le (Nat.mod_lt _ (by decide)) (by decide))).symm
theorem n_nn {x : Int32} (h : 0 ≤ x) : ∃ k, x = nI k ∧ k < 2147483648 := by
  have h0 := Int32.le_iff_toInt_le.mp h
  have e0 : (0 : Int32).toInt = 0 := rfl
  have h1 := Int32.toInt_lt x
  refine ⟨x.toInt.toNat, ?_, by omega⟩
  rw [← Int32.toInt_inj, n_toInt (by omega)]
  omega
theorem nx_nn {x : Int32} (h : 0 ≤ x) : 0 ≤ nx x := by
  obtain ⟨k, rfl, hk⟩ := n_nn h
  rw [nx_n hk, show (0 : Int32) = nI 0 from rfl, n_le (by omega) (by omega)]
  omega
theorem nx_l {x : Int32} (h : 0 ≤ x) : (x.toInt64 * 1103515245 + 12345) &&& 2147483647 = (nx x).toInt64 := by
  obtain ⟨k, rfl, hk⟩ := n_nn h
  rw [nx_n hk, nI_l (by omega), nI_l (by omega), lx_n hk]
theorem nx_q {x : Int32} (h : 0 ≤ x) : (x.toInt64 / 65536 - x.toInt64 / 65536 / (100 : Int32).toInt64 * (100 : Int32).toInt64).toInt32 = x / 65536 - x / 65536 / 100 * 100 := by
  obtain ⟨k, rfl, hk⟩ := n_nn h
  rw [nI_l (by omega), show (65536 : Int64) = lN 65536 from rfl, show (100 : Int32).toInt64 = lN 100 from rfl, pk_lDiv (by omega) (by decide) (by decide), pk_lRem (by omega) (by decide) (by decide), lN_i]
  rw [show (65536 : Int32) = nI 65536 from rfl, show (100 : Int32) = nI 100 from rfl, pk_div (by omega) (by decide) (by decide), pk_rem (by omega) (by decide) (by decide)]
abbrev sDr : Nat := 61
abbrev zeLd (L L' : zJ) : Prop := ∀ a b c, a ≠ 74 → a ≠ 75 → ¬ (a = 12 ∧ b = 0 ∧ c = 61) → L' a b c = L a b c
theorem p_isLonger {K : zQ} {I : zI} {L : zJ} {P : zP} {b : Nat} {T : aT} {S : aS} {h w k : Nat} {dr : Bool} {n : Int32} (hb : b < 2) (hT : RT I T) (hS : RS I b T S) (hh : h < T.1 0) (hw : w < T.1 1) (hk : k < 6) (hdr : (I 12 0 63 = 0 ∧ dr = false) ∨ (I 12 0 63 = 1 ∧ dr = true)) (hn : dr = true → 0 ≤ n ∧ L 12 0 61 = n.toInt64)
    (hK : ∀ (I' : zI) (L' : zJ), frE I I' → zeLd L L' → (dr = false → L' 12 0 61 = L 12 0 61) → (dr = true → 0 ≤ (dr1 dr (shk T S h w k) n).1 ∧ L' 12 0 61 = (dr1 dr (shk T S h w k) n).1.toInt64) → K [.inl (dr1 dr (shk T S h w k) n).2] (I', L', P)) : mX12_isLonger K [.inr (.inr (12, 0)), .inl (nI b), .inl (nI h), .inl (nI w), .inl (nI k)] (I, L, P) := by
  have rg : 0 ≤ shk T S h w k ∧ shk T S h w k ≤ 100 := wi_rng (by decide)
  show bX12_isLonger_0 K [some (.inr (.inr (12,0))), some (.inl (nI b)), some (.inl (nI h)), some (.inl (nI w)), some (.inl (nI k)), none] [] (I, L, P)
  unfold bX12_isLonger_0
  dsimp only [x_int, x_lng, x_ild, x_lld, x_ald, x_ist, x_ast, x_lst, x_inc, x_ii, x_id, x_i, x_ll, x_ld, x_l, x_cmp, x_i2l, x_l2i, x_if, x_ic, x_dup, x_pop, x_dup2, x_gI, x_gL, x_gR, x_g1, x_g0, x_gP, x_pI, x_pZ, x_pL, x_pP, x_al, x_as, x_all, x_asl, x_alr, x_len, x_cpy, x_m2, x_m1, x_m2l, x_m1l, x_call, x_cv, x_ri, x_rz, x_rl, x_rv, zg, zset, zbef, zlong, zcat, cond_true, cond_false, List.take, List.drop, rv1, rv2, rv3, rv4, rv5, rv6, rv7, sm0, sm1, bl0, bl1, bl2, bl3, bl4, bl5, bl6, bl7, bl8, List.nil_append, List.cons_append, List.length_cons, List.length_nil, Nat.reduceBEq, Nat.reduceAdd, Nat.reduceSub, ta, tb, tn0, tn1, tn2, tn3, tn4, tn5, tn6, tn7, tn8, tn9, tn10, tn11, tn12]
  refine p_shakeOf hb hT hS hh hw hk (fun I1 L1 hI1 hL1 => ?_)
  generalize shk T S h w k = e at *
  have hd1 : I1 12 0 63 = I 12 0 63 := hI1 12 0 63 (by simp)
  have hn1 : L1 12 0 61 = L 12 0 61 := hL1 12 0 61 (by decide) (by decide)
  dsimp only [x_int, x_lng, x_ild, x_lld, x_ald, x_ist, x_ast, x_lst, x_inc, x_ii, x_id, x_i, x_ll, x_ld, x_l, x_cmp, x_i2l, x_l2i, x_if, x_ic, x_dup, x_pop, x_dup2, x_gI, x_gL, x_gR, x_g1, x_g0, x_gP, x_pI, x_pZ, x_pL, x_pP, x_al, x_as, x_all, x_asl, x_alr, x_len, x_cpy, x_m2, x_m1, x_m2l, x_m1l, x_call, x_cv, x_ri, x_rz, x_rl, x_rv, zg, zset, zbef, zlong, zcat, cond_true, cond_false, List.take, List.drop, rv1, rv2, rv3, rv4, rv5, rv6, rv7, sm0, sm1, bl0, bl1, bl2, bl3, bl4, bl5, bl6, bl7, bl8, List.nil_append, List.cons_append, List.length_cons, List.length_nil, Nat.reduceBEq, Nat.reduceAdd, Nat.reduceSub, ta, tb, tn0, tn1, tn2, tn3, tn4, tn5, tn6, tn7, tn8, tn9, tn10, tn11, tn12, bX12_isLonger_23, bX12_isLonger_35, bX12_isLonger_74]
  rw [hd1]
  -- no number is drawn
  have hKs : (dr1 dr e n).1 = n → K [.inl (dr1 dr e n).2] (I1, L1, P) := fun q => hK I1 L1 hI1 (fun a b c q1 q2 _ => hL1 a b c q1 q2) (fun _ => hn1) (fun z => by rw [q, hn1]; exact hn z)
  have e2 : dr1 false e n = (n, if e < 50 then 0 else 1) := rfl
  have e1 : dr1 true e n = (if e ≤ 0 then (n, if e < 100 then 0 else 1) else if e < 100 then (nx n, if e ≤ nx n / 65536 - nx n / 65536 / 100 * 100 then 0 else 1) else (n, if e < 100 then 0 else 1)) := rfl
  refine ⟨fun c => ?_, fun c => ⟨fun d => ?_, fun d => ?_⟩⟩
  · subst c
    refine ⟨fun q => absurd q (by decide), fun _ => ⟨Or.inl rfl, ?_⟩⟩
    have : dr1 dr 0 n = (n, 0) := by cases dr <;> rfl
    rw [this] at hKs; exact hKs rfl
  · subst d
    refine ⟨fun _ => ⟨Or.inr rfl, ?_⟩, fun q => absurd rfl q⟩
    have : dr1 dr 100 n = (n, 1) := by cases dr <;> rfl
    rw [this] at hKs; exact hKs rfl
  · rcases hdr with ⟨f1, rfl⟩ | ⟨f1, rfl⟩
    · rw [f1]
      rw [e2] at hKs
      have hKs := hKs rfl
      refine ⟨fun _ => ⟨fun f => ⟨Or.inl rfl, ?_⟩, fun f => ⟨Or.inr rfl, ?_⟩⟩, fun q => absurd rfl q⟩
      · have hKs : K [.inl (if e < 50 then 0 else 1)] (I1, L1, P) := hKs
        rw [if_pos f] at hKs; exact hKs
      · have hKs : K [.inl (if e < 50 then 0 else 1)] (I1, L1, P) := hKs
        rw [if_neg f] at hKs; exact hKs
    · rw [f1]
      refine ⟨fun q => absurd q (by decide), fun _ => ?_⟩
      obtain ⟨g1, g2⟩ := hn rfl
      have le0 : ¬ e ≤ 0 := fun q => c (Int32.le_antisymm q rg.1)
      have l100 : e < 100 := Int32.not_le.mp (fun q => d (Int32.le_antisymm rg.2 q))
      rw [e1, if_neg le0, if_pos l100] at hK
      unfold mX12_number1 g_ent bX12_number1_0
      dsimp only [zwd, zent, x_int, x_lng, x_ild, x_lld, x_ald, x_ist, x_ast, x_lst, x_inc, x_ii, x_id, x_i, x_ll, x_ld, x_l, x_cmp, x_i2l, x_l2i, x_if, x_ic, x_dup, x_pop, x_dup2, x_gI, x_gL, x_gR, x_g1, x_g0, x_gP, x_pI, x_pZ, x_pL, x_pP, x_al, x_as, x_all, x_asl, x_alr, x_len, x_cpy, x_m2, x_m1, x_m2l, x_m1l, x_call, x_cv, x_ri, x_rz, x_rl, x_rv, zg, zset, zbef, zlong, zcat, cond_true, cond_false, List.take, List.drop, rv1, rv2, rv3, rv4, rv5, rv6, rv7, sm0, sm1, bl0, bl1, bl2, bl3, bl4, bl5, bl6, bl7, bl8, List.nil_append, List.cons_append, List.length_cons, List.length_nil, Nat.reduceBEq, Nat.reduceAdd, Nat.reduceSub, ta, tb, tn0, tn1, tn2, tn3, tn4, tn5, tn6, tn7, tn8, tn9, tn10, tn11, tn12]
      rw [hn1, g2, nx_l g1]
      have rd : (zsL (I1, L1, P) 12 0 61 (nx n).toInt64).2.1 12 0 61 = (nx n).toInt64 := by simp [zsL]
      rw [rd, nx_q (nx_nn g1)]
      have hK := hK I1 (zsL (I1, L1, P) 12 0 61 (nx n).toInt64).2.1 hI1 (fun a b c q1 q2 q3 => ?_) (fun q => absurd q (by decide)) (fun _ => ⟨nx_nn g1, rd⟩)
      · refine ⟨by decide, by decide, fun f => ⟨Or.inl rfl, ?_⟩, fun f => ⟨Or.inr rfl, ?_⟩⟩
        · have hK : K [.inl (if e ≤ nx n / 65536 - nx n / 65536 / 100 * 100 then 0 else 1)] (zsL (I1, L1, P) 12 0 61 (nx n).toInt64) := hK
          rw [if_pos f] at hK; exact hK
        · have hK : K [.inl (if e ≤ nx n / 65536 - nx n / 65536 / 100 * 100 then 0 else 1)] (zsL (I1, L1, P) 12 0 61 (nx n).toInt64) := hK
          rw [if_neg f] at hK; exact hK
      · show (if a = 12 ∧ b = 0 ∧ c = 61 then _ else L1 a b c) = _
        rw [if_neg q3]; exact hL1 a b c q1 q2
