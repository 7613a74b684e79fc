theorem p_powerOf {K : zQ} {M : zM} {b n : Nat} (hn : n < 2147483648) (hK : K [.inl (nI (b ^ n))] M) : mX12_powerOf K [.inl (nI b), .inl (nI n)] M := by
  show bX12_powerOf_4 K [some (.inl (nI b)), some (.inl (nI n)), some (.inl (nI (b ^ 0))), some (.inl 0)] [] M
  refine zfor n (fun i => [some (.inl (nI b)), some (.inl (nI n)), some (.inl (nI (b ^ i))), some (.inl (nI i))]) (fun _ => M) (fun i hi self hs => ?_) (fun self => ?_)
  · dsimp only [x_int, x_lng, x_ild, x_lld, x_ald, x_ist, x_ast, x_lst, x_inc, x_ii, x_id, x_i, x_ll, x_ld, x_l, x_cmp, x_i2l, x_l2i, x_if, x_ic, x_dup, x_pop, x_dup2, x_gI, x_gL, x_gR, x_g1, x_g0, x_gP, x_pI, x_pZ, x_pL, x_pP, x_al, x_as, x_all, x_asl, x_alr, x_len, x_cpy, x_m2, x_m1, x_m2l, x_m1l, x_call, x_cv, x_ri, x_rz, x_rl, x_rv, zg, zset, zbef, zlong, zcat, cond_true, cond_false, List.take, List.drop, rv1, rv2, rv3, rv4, rv5, rv6, rv7, sm0, sm1, bl0, bl1, bl2, bl3, bl4, bl5, bl6, bl7, bl8, List.nil_append, List.cons_append, List.length_cons, List.length_nil, Nat.reduceBEq, Nat.reduceAdd, Nat.reduceSub, ta, tb, tn0, tn1, tn2, tn3, tn4, tn5, tn6, tn7, tn8, tn9, tn10, tn11, tn12]
    rw [n_mul, ← Nat.pow_succ, n_succ i]
    exact ⟨fun q => absurd q (lt_go (n := n) rfl hn hi), fun _ => hs⟩
  · dsimp only [x_int, x_lng, x_ild, x_lld, x_ald, x_ist, x_ast, x_lst, x_inc, x_ii, x_id, x_i, x_ll, x_ld, x_l, x_cmp, x_i2l, x_l2i, x_if, x_ic, x_dup, x_pop, x_dup2, x_gI, x_gL, x_gR, x_g1, x_g0, x_gP, x_pI, x_pZ, x_pL, x_pP, x_al, x_as, x_all, x_asl, x_alr, x_len, x_cpy, x_m2, x_m1, x_m2l, x_m1l, x_call, x_cv, x_ri, x_rz, x_rl, x_rv, zg, zset, zbef, zlong, zcat, cond_true, cond_false, List.take, List.drop, rv1, rv2, rv3, rv4, rv5, rv6, rv7, sm0, sm1, bl0, bl1, bl2, bl3, bl4, bl5, bl6, bl7, bl8, List.nil_append, List.cons_append, List.length_cons, List.length_nil, Nat.reduceBEq, Nat.reduceAdd, Nat.reduceSub, ta, tb, tn0, tn1, tn2, tn3, tn4, tn5, tn6, tn7, tn8, tn9, tn10, tn11, tn12]
    exact ⟨fun _ => hK, fun q => absurd q (lt_out (n := n) rfl)⟩
theorem pw6 : ∀ n, n < 7 → ∀ k, k < 7 → n ^ k ≤ 46656 := by decide
theorem had_or : ∀ H, H < 64 → ∀ b, b < 6 → H.testBit b = false → nI H ||| (1 <<< (nI b &&& 31)) = nI (H + 2 ^ b) := by decide +kernel
theorem dl_s (n c k : Nat) : dl n c (k + 1) = (c / n ^ k % n) :: dl n c k := rfl
theorem dl_get {n c : Nat} : ∀ {k j : Nat}, j < k → (dl n c k).getD j 0 = c / n ^ (k - 1 - j) % n := by
  intro k
  induction k with
  | zero => intro j h; omega
  | succ k ih =>
    intro j h
    rw [dl_s]
    cases j with
    | zero => rfl
    | succ j =>
      rw [show k + 1 - 1 - (j + 1) = k - 1 - j by omega, ← ih (by omega)]
      rfl
theorem p_masked {K : zQ} {I : zI} {L : zJ} {P : zP} {T : aT} {s c : Nat} (hT : RT I T) (hs : s < 2 ^ T.1 0) (hm : ∀ i, i < pop6 s → I 88 0 i = nI (msb s i)) (hc : c < pop6 s ^ pop6 s) (hK : K [.inl (if vlc s c = true then nI (cstO T none (rwc s c)) else -1)] (I, L, P)) : mX12_masked K [refR, .inl (nI c), .inl (nI (pop6 s))] (I, L, P) := by
  have h6 := hT.h6
  have s6 := r64 hs h6
  have p6 := pop_6 s
  have pw := pw6 (pop6 s) (by omega) (pop6 s) (by omega)
  have mlt : ∀ i, i < pop6 s → msb s i < T.1 0 := fun i hi => tb_lt hs (msb_in s s6 i hi).1
  have cle : cstO T none (rwc s c) ≤ 6 := by
    have := cstO_le T (rwc s c) none
    rw [List.length_map, dl_len] at this
    omega
  show bX12_masked_11 K [some refR, some (.inl (nI c)), some (.inl (nI (pop6 s))), some (.inl 0), some (.inl 0), some (.inl (-1)), some (.inl 0), none] [] (I, L, P)
  refine zinv (pop6 s) (fun k Z M => ∃ (z7 : Option zV) (H v : Nat) (o : Option Nat), Z = [some refR, some (.inl (nI c)), some (.inl (nI (pop6 s))), some (.inl (nI H)), some (.inl (nI v)), some (.inl (wbR o)), some (.inl (nI k)), z7] ∧ M = (I, L, P) ∧ H < 64 ∧ (∀ a, o = some a → a < pop6 s) ∧ vlc s c = vld H (dl (pop6 s) c (pop6 s - k)) ∧ cstO T none (rwc s c) = v + cstO T (o.map (msb s)) ((dl (pop6 s) c (pop6 s - k)).map (msb s))) ?_ ?_ ⟨none, 0, 0, none, rfl, rfl, by omega, (fun a e => by cases e), rfl, (Nat.zero_add _).symm⟩
  · rintro k Z M hk ⟨z7, H, v, o, rfl, rfl, a1, a2, a3, a4⟩ self hself
    obtain ⟨j, hj⟩ : ∃ j, pop6 s - k = j + 1 := ⟨pop6 s - k - 1, by omega⟩
    have pj := pw6 (pop6 s) (by omega) j (by omega)
    have pj0 : 0 < pop6 s ^ j := Nat.pow_pos (by omega)
    rw [hj, dl_s] at a3 a4
    have d6 : c / pop6 s ^ j % pop6 s < pop6 s := Nat.mod_lt _ (by omega)
    have ex : nI (pop6 s) - 1 - nI k = nI j := by
      rw [show (1 : Int32) = nI 1 from rfl, pk_sub (by omega), pk_sub (by omega)]
      congr 1
      omega
    have cd : c / pop6 s ^ j ≤ c := Nat.div_le_self _ _
    dsimp only [x_int, x_lng, x_ild, x_lld, x_ald, x_ist, x_ast, x_lst, x_inc, x_ii, x_id, x_i, x_ll, x_ld, x_l, x_cmp, x_i2l, x_l2i, x_if, x_ic, x_dup, x_pop, x_dup2, x_gI, x_gL, x_gR, x_g1, x_g0, x_gP, x_pI, x_pZ, x_pL, x_pP, x_al, x_as, x_all, x_asl, x_alr, x_len, x_cpy, x_m2, x_m1, x_m2l, x_m1l, x_call, x_cv, x_ri, x_rz, x_rl, x_rv, zg, zset, zbef, zlong, zcat, cond_true, cond_false, List.take, List.drop, rv1, rv2, rv3, rv4, rv5, rv6, rv7, sm0, sm1, bl0, bl1, bl2, bl3, bl4, bl5, bl6, bl7, bl8, List.nil_append, List.cons_append, List.length_cons, List.length_nil, Nat.reduceBEq, Nat.reduceAdd, Nat.reduceSub, ta, tb, tn0, tn1, tn2, tn3, tn4, tn5, tn6, tn7, tn8, tn9, tn10, tn11, tn12]
    rw [ex]
    refine ⟨fun q => absurd q (lt_go (n := pop6 s) rfl (by omega) hk), fun _ => p_powerOf (by omega) ?_⟩
    dsimp only [x_int, x_lng, x_ild, x_lld, x_ald, x_ist, x_ast, x_lst, x_inc, x_ii, x_id, x_i, x_ll, x_ld, x_l, x_cmp, x_i2l, x_l2i, x_if, x_ic, x_dup, x_pop, x_dup2, x_gI, x_gL, x_gR, x_g1, x_g0, x_gP, x_pI, x_pZ, x_pL, x_pP, x_al, x_as, x_all, x_asl, x_alr, x_len, x_cpy, x_m2, x_m1, x_m2l, x_m1l, x_call, x_cv, x_ri, x_rz, x_rl, x_rv, zg, zset, zbef, zlong, zcat, cond_true, cond_false, List.take, List.drop, rv1, rv2, rv3, rv4, rv5, rv6, rv7, sm0, sm1, bl0, bl1, bl2, bl3, bl4, bl5, bl6, bl7, bl8, List.nil_append, List.cons_append, List.length_cons, List.length_nil, Nat.reduceBEq, Nat.reduceAdd, Nat.reduceSub, ta, tb, tn0, tn1, tn2, tn3, tn4, tn5, tn6, tn7, tn8, tn9, tn10, tn11, tn12]
    rw [pk_div (by omega) pj0 (by omega), pk_rem (by omega) (by omega) (by omega)]
    refine ⟨fun z => ?_, fun z => ?_, p_isOf a1 (by omega) ?_⟩
    · have z : nI (pop6 s ^ j) = nI 0 := z
      rw [n_eq (by omega) (by omega)] at z
      omega
    · have z : nI (pop6 s) = nI 0 := z
      rw [n_eq (by omega) (by omega)] at z
      omega
    generalize c / pop6 s ^ j % pop6 s = d at a3 a4 d6 ⊢
    have md := mlt d d6
    dsimp only [x_int, x_lng, x_ild, x_lld, x_ald, x_ist, x_ast, x_lst, x_inc, x_ii, x_id, x_i, x_ll, x_ld, x_l, x_cmp, x_i2l, x_l2i, x_if, x_ic, x_dup, x_pop, x_dup2, x_gI, x_gL, x_gR, x_g1, x_g0, x_gP, x_pI, x_pZ, x_pL, x_pP, x_al, x_as, x_all, x_asl, x_alr, x_len, x_cpy, x_m2, x_m1, x_m2l, x_m1l, x_call, x_cv, x_ri, x_rz, x_rl, x_rv, zg, zset, zbef, zlong, zcat, cond_true, cond_false, List.take, List.drop, rv1, rv2, rv3, rv4, rv5, rv6, rv7, sm0, sm1, bl0, bl1, bl2, bl3, bl4, bl5, bl6, bl7, bl8, List.nil_append, List.cons_append, List.length_cons, List.length_nil, Nat.reduceBEq, Nat.reduceAdd, Nat.reduceSub, ta, tb, tn0, tn1, tn2, tn3, tn4, tn5, tn6, tn7, tn8, tn9, tn10, tn11, tn12, zk_88, zl_88, zk_58, zl_58, bX12_masked_97, bX12_masked_98]
    by_cases b : H.testBit d = true
    · rw [if_pos b]
      have : vlc s c = false := by
        rw [a3]
        show (!H.testBit d && vld (H + 2 ^ d) _) = false
        rw [b]; rfl
      rw [this] at hK
      exact ⟨fun z => absurd z (by decide), fun _ => hK⟩
    · have b : H.testBit d = false := by cases z : H.testBit d with
        | false => rfl
        | true => exact absurd z b
      rw [if_neg (by rw [b]; decide), had_or H a1 d (by omega) b, n_succ k]
      have ta := (tb_add H a1 d (by omega) b).1
      have a3 : vlc s c = vld (H + 2 ^ d) (dl (pop6 s) c j) := by
        rw [a3]
        show (!H.testBit d && vld (H + 2 ^ d) _) = _
        rw [b]; rfl
      have a4 : cstO T none (rwc s c) = v + (mkO T (o.map (msb s)) (msb s d) + cstO T (some (msb s d)) ((dl (pop6 s) c j).map (msb s))) := a4
      have fin : ∀ w : Int32, w = nI (mkO T (o.map (msb s)) (msb s d)) → self [some refR, some (.inl (nI c)), some (.inl (nI (pop6 s))), some (.inl (nI (H + 2 ^ d))), some (.inl (nI v + w)), some (.inl (nI d)), some (.inl (nI (k + 1))), some (.inl (nI d))] [] (I, L, P) := fun w hw => by
        rw [hw, n_add]
        refine hself _ _ ⟨_, H + 2 ^ d, v + mkO T (o.map (msb s)) (msb s d), some d, rfl, rfl, ta, (fun a e => by cases e; exact d6), ?_, ?_⟩
        · rw [show pop6 s - (k + 1) = j by omega]; exact a3
        · rw [show pop6 s - (k + 1) = j by omega, Nat.add_assoc]; exact a4
      refine ⟨fun _ => ?_, fun z => absurd rfl z⟩
      cases o with
      | none => exact ⟨fun _ => fin 0 rfl, fun z => absurd (show (-1 : Int32) < 0 by decide) z⟩
      | some a =>
        have ha := a2 a rfl
        have ma := mlt a ha
        have e1 : nI (mkO T ((some a).map (msb s)) (msb s d)) = nI (if T.2.1 3 (6 * msb s a + 5) = T.2.1 3 (6 * msb s d) then 1 else 0) := rfl
        dsimp only [wbR]
        rw [n_cl (n := a) (by omega), n_cl (n := d) (by omega), hm a ha, hm d d6, show (5 : Int32) = nI 5 from rfl, show (6 : Int32) = nI 6 from rfl, n_mul, n_mul, n_add, n_cl (n := 6 * msb s a + 5) (by omega), n_cl (n := 6 * msb s d) (by omega), (hT.hand ma).2.2.2 5 (by omega), show I 58 0 (6 * msb s d) = T.2.1 3 (6 * msb s d) from (hT.hand md).2.2.2 0 (by omega)]
        refine ⟨fun z => ?_, fun _ => ⟨n_zin (by omega) (by decide), n_zin (by omega) (by decide), n_zin (by omega) (by decide), n_zin (by omega) (by decide), fun e => fin 1 ?_, fun e => fin 0 ?_⟩⟩
        · have z : nI a < nI 0 := z
          rw [n_lt (by omega) (by omega)] at z
          omega
        · rw [e1, if_pos e]; rfl
        · rw [e1, if_neg e]; rfl
  · rintro Z M ⟨z7, H, v, o, rfl, rfl, a1, a2, a3, a4⟩ self
    rw [Nat.sub_self] at a3 a4
    have a3 : vlc s c = true := a3
    have a4 : cstO T none (rwc s c) = v := a4
    rw [if_pos a3, a4] at hK
    dsimp only [x_int, x_lng, x_ild, x_lld, x_ald, x_ist, x_ast, x_lst, x_inc, x_ii, x_id, x_i, x_ll, x_ld, x_l, x_cmp, x_i2l, x_l2i, x_if, x_ic, x_dup, x_pop, x_dup2, x_gI, x_gL, x_gR, x_g1, x_g0, x_gP, x_pI, x_pZ, x_pL, x_pP, x_al, x_as, x_all, x_asl, x_alr, x_len, x_cpy, x_m2, x_m1, x_m2l, x_m1l, x_call, x_cv, x_ri, x_rz, x_rl, x_rv, zg, zset, zbef, zlong, zcat, cond_true, cond_false, List.take, List.drop, rv1, rv2, rv3, rv4, rv5, rv6, rv7, sm0, sm1, bl0, bl1, bl2, bl3, bl4, bl5, bl6, bl7, bl8, List.nil_append, List.cons_append, List.length_cons, List.length_nil, Nat.reduceBEq, Nat.reduceAdd, Nat.reduceSub, ta, tb, tn0, tn1, tn2, tn3, tn4, tn5, tn6, tn7, tn8, tn9, tn10, tn11, tn12]
    exact ⟨fun _ => hK, fun q => absurd q (lt_out (n := pop6 s) rfl)⟩
theorem r_joint {K : zQ} {I : zI} {L : zJ} {P : zP} {A : aA} {s x : Int32} (hR : RR A I L) (hK : ∀ (I' : zI), frR I I' → K [.inl (v_joint A s x)] (I', L, P)) : mX12_joint K [refR, .inl s, .inl x] (I, L, P) := by
  show bX12_joint_0 K [some (.inr (.inr (12,0))), some (.inl s), some (.inl x), none, none, none, none, none] [] (I, L, P)
  unfold bX12_joint_0
  obtain ⟨I1, e9, hR1, f1⟩ := r_thr P hR
  dsimp only [x_ald, x_int, x_pI, zg, Nat.reduceBEq, cond_true]
  rw [e9]
  have hT := hR1.1
  have h6 := hT.h6
  have bad : ¬ okRw A s x → K [.inl (-1)] (I1, L, P) := fun z => by
    have hk := hK I1 f1
    unfold v_joint at hk
    rw [if_neg z] at hk; exact hk
  dsimp only [x_int, x_lng, x_ild, x_lld, x_ald, x_ist, x_ast, x_lst, x_inc, x_ii, x_id, x_i, x_ll, x_ld, x_l, x_cmp, x_i2l, x_l2i, x_if, x_ic, x_dup, x_pop, x_dup2, x_gI, x_gL, x_gR, x_g1, x_g0, x_gP, x_pI, x_pZ, x_pL, x_pP, x_al, x_as, x_all, x_asl, x_alr, x_len, x_cpy, x_m2, x_m1, x_m2l, x_m1l, x_call, x_cv, x_ri, x_rz, x_rl, x_rv, zg, zset, zbef, zlong, zcat, cond_true, cond_false, List.take, List.drop, rv1, rv2, rv3, rv4, rv5, rv6, rv7, sm0, sm1, bl0, bl1, bl2, bl3, bl4, bl5, bl6, bl7, bl8, List.nil_append, List.cons_append, List.length_cons, List.length_nil, Nat.reduceBEq, Nat.reduceAdd, Nat.reduceSub, ta, tb, tn0, tn1, tn2, tn3, tn4, tn5, tn6, tn7, tn8, tn9, tn10, tn11, tn12, bX12_joint_29]
  rw [hT.1.1, sh1 _ (by omega)]
  refine ⟨fun c => bad (fun z => Int32.not_lt.mpr z.1.1 c), fun c1 => ⟨fun c => bad (fun z => Int32.not_lt.mpr c z.1.2), fun c2 => p_isIn (fun ok => ?_) (fun no => ?_)⟩⟩
  · have good : okRw A s x := ⟨⟨Int32.not_lt.mp c1, Int32.not_le.mp c2⟩, ok⟩
    unfold v_joint at hK
    rw [if_pos good] at hK
    have two : 2 ^ A.T.1 0 ≤ 64 := Nat.pow_le_pow_right (n := 2) (by decide) h6
    obtain ⟨y, rfl, hy⟩ := ok_of (by omega) good.1
    rw [n_cl (n := y) (by omega)] at hK
    have y6 : y < 64 := by omega
    have ln := G0_len h6 hy
    have p6 := pop_6 y
    have pn := pop_n (A.T.1 0) (by omega) y y6 hy
    dsimp only [x_int, x_lng, x_ild, x_lld, x_ald, x_ist, x_ast, x_lst, x_inc, x_ii, x_id, x_i, x_ll, x_ld, x_l, x_cmp, x_i2l, x_l2i, x_if, x_ic, x_dup, x_pop, x_dup2, x_gI, x_gL, x_gR, x_g1, x_g0, x_gP, x_pI, x_pZ, x_pL, x_pP, x_al, x_as, x_all, x_asl, x_alr, x_len, x_cpy, x_m2, x_m1, x_m2l, x_m1l, x_call, x_cv, x_ri, x_rz, x_rl, x_rv, zg, zset, zbef, zlong, zcat, cond_true, cond_false, List.take, List.drop, rv1, rv2, rv3, rv4, rv5, rv6, rv7, sm0, sm1, bl0, bl1, bl2, bl3, bl4, bl5, bl6, bl7, bl8, List.nil_append, List.cons_append, List.length_cons, List.length_nil, Nat.reduceBEq, Nat.reduceAdd, Nat.reduceSub, ta, tb, tn0, tn1, tn2, tn3, tn4, tn5, tn6, tn7, tn8, tn9, tn10, tn11, tn12, bX12_joint_29]
    refine ⟨fun z => absurd z (by decide), fun _ => ?_⟩
    refine zinv (A.T.1 0) (fun i Z M => ∃ (I' : zI), Z = [some refR, some (.inl (nI y)), some (.inl x), some (.inl (nI (zcount (fun i => y.testBit i) i))), some (.inl (nI i)), none, none, none] ∧ M = (I', L, P) ∧ fr1 88 I1 I' ∧ ∀ j, j < zcount (fun i => y.testBit i) i → I' 88 0 j = nI (msb y j)) ?_ ?_ ⟨I1, rfl, rfl, fun _ _ _ _ => rfl, fun j hj => absurd hj (Nat.not_lt_zero _)⟩
    · rintro i Z M hi ⟨I', rfl, rfl, q1, q2⟩ self hself
      have zl := zcount_le (fun i => y.testBit i) i
      have h12 : I' 12 0 12 = nI (A.T.1 0) := (q1 12 0 _ (by omega)).trans hT.1.1
      dsimp only [x_int, x_lng, x_ild, x_lld, x_ald, x_ist, x_ast, x_lst, x_inc, x_ii, x_id, x_i, x_ll, x_ld, x_l, x_cmp, x_i2l, x_l2i, x_if, x_ic, x_dup, x_pop, x_dup2, x_gI, x_gL, x_gR, x_g1, x_g0, x_gP, x_pI, x_pZ, x_pL, x_pP, x_al, x_as, x_all, x_asl, x_alr, x_len, x_cpy, x_m2, x_m1, x_m2l, x_m1l, x_call, x_cv, x_ri, x_rz, x_rl, x_rv, zg, zset, zbef, zlong, zcat, cond_true, cond_false, List.take, List.drop, rv1, rv2, rv3, rv4, rv5, rv6, rv7, sm0, sm1, bl0, bl1, bl2, bl3, bl4, bl5, bl6, bl7, bl8, List.nil_append, List.cons_append, List.length_cons, List.length_nil, Nat.reduceBEq, Nat.reduceAdd, Nat.reduceSub, ta, tb, tn0, tn1, tn2, tn3, tn4, tn5, tn6, tn7, tn8, tn9, tn10, tn11, tn12]
      rw [h12]
      refine ⟨fun q => absurd q (lt_go (n := A.T.1 0) rfl (by omega) hi), fun _ => p_isOf y6 (by omega) ?_⟩
      dsimp only [x_int, x_lng, x_ild, x_lld, x_ald, x_ist, x_ast, x_lst, x_inc, x_ii, x_id, x_i, x_ll, x_ld, x_l, x_cmp, x_i2l, x_l2i, x_if, x_ic, x_dup, x_pop, x_dup2, x_gI, x_gL, x_gR, x_g1, x_g0, x_gP, x_pI, x_pZ, x_pL, x_pP, x_al, x_as, x_all, x_asl, x_alr, x_len, x_cpy, x_m2, x_m1, x_m2l, x_m1l, x_call, x_cv, x_ri, x_rz, x_rl, x_rv, zg, zset, zbef, zlong, zcat, cond_true, cond_false, List.take, List.drop, rv1, rv2, rv3, rv4, rv5, rv6, rv7, sm0, sm1, bl0, bl1, bl2, bl3, bl4, bl5, bl6, bl7, bl8, List.nil_append, List.cons_append, List.length_cons, List.length_nil, Nat.reduceBEq, Nat.reduceAdd, Nat.reduceSub, ta, tb, tn0, tn1, tn2, tn3, tn4, tn5, tn6, tn7, tn8, tn9, tn10, tn11, tn12, zk_88, zl_88, bX12_joint_68]
      rw [n_succ i, n_cl (n := zcount (fun i => y.testBit i) i) (by omega)]
      by_cases b : y.testBit i = true
      · rw [if_pos b, zc_yes (p := fun i => y.testBit i) (i := i) b]
        obtain ⟨I2, e2, w2, f2⟩ := zsI_ex I' L P 88 0 (zcount (fun i => y.testBit i) i) (nI i)
        rw [e2]
        have ma := msb_at y y6 i (by omega) b
        have es : zcount (fun i => y.testBit i) (i + 1) = zcount (fun i => y.testBit i) i + 1 := by
          show _ + (if y.testBit i = true then 1 else 0) = _
          rw [if_pos b]
        refine ⟨fun z => absurd z (by decide), fun _ => ⟨n_zin (by omega) (by decide), hself _ _ ⟨I2, rfl, rfl, fun a b c q => (f2 a b c (fun e => q ⟨e.1, e.2.1⟩)).trans (q1 a b c q), fun j hj => ?_⟩⟩⟩
        by_cases e : j = zcount (fun i => y.testBit i) i
        · rw [e, w2, ma]
        · exact (f2 88 0 j (fun z => e z.2.2)).trans (q2 j (by omega))
      · have b' : y.testBit i = false := by cases z : y.testBit i with
          | false => rfl
          | true => exact absurd z b
        have es : zcount (fun i => y.testBit i) (i + 1) = zcount (fun i => y.testBit i) i := by
          show _ + (if y.testBit i = true then 1 else 0) = _
          rw [if_neg b]
          rfl
        rw [if_neg b]
        refine ⟨fun _ => hself _ _ ⟨I', ?_, rfl, q1, ?_⟩, fun z => absurd rfl z⟩
        · rw [es]
        · rw [es]; exact q2
    · rintro Z M ⟨I', rfl, rfl, q1, q2⟩ self
      rw [pn] at q2 ⊢
      have fR : frR I I' := f1.tr (fun a i c q => q1 a i c (fun e => q ⟨e.2, Or.inr (Or.inr (Or.inl e.1))⟩))
      have h12 : I' 12 0 12 = nI (A.T.1 0) := (q1 12 0 _ (by omega)).trans hT.1.1
      have hT' := frR_RT fR hR.1
      have hk := hK I' fR
      have pw := pw6 (pop6 y) (by omega) (pop6 y) (by omega)
      obtain ⟨b, j1, j2, j3, j4⟩ := jnt_grd h6 hy
      have main : (x = 6 ∨ x < nI (pop6 y)) → bX12_joint_88 K [some refR, some (.inl (nI y)), some (.inl x), some (.inl (nI (pop6 y))), some (.inl (nI (A.T.1 0))), none, none, none] [] (I', L, P) := fun hx => by
        unfold bX12_joint_88
        dsimp only [x_int, x_lng, x_ild, x_lld, x_ald, x_ist, x_ast, x_lst, x_inc, x_ii, x_id, x_i, x_ll, x_ld, x_l, x_cmp, x_i2l, x_l2i, x_if, x_ic, x_dup, x_pop, x_dup2, x_gI, x_gL, x_gR, x_g1, x_g0, x_gP, x_pI, x_pZ, x_pL, x_pP, x_al, x_as, x_all, x_asl, x_alr, x_len, x_cpy, x_m2, x_m1, x_m2l, x_m1l, x_call, x_cv, x_ri, x_rz, x_rl, x_rv, zg, zset, zbef, zlong, zcat, cond_true, cond_false, List.take, List.drop, rv1, rv2, rv3, rv4, rv5, rv6, rv7, sm0, sm1, bl0, bl1, bl2, bl3, bl4, bl5, bl6, bl7, bl8, List.nil_append, List.cons_append, List.length_cons, List.length_nil, Nat.reduceBEq, Nat.reduceAdd, Nat.reduceSub, ta, tb, tn0, tn1, tn2, tn3, tn4, tn5, tn6, tn7, tn8, tn9, tn10, tn11, tn12]
        refine zinv (pop6 y ^ pop6 y) (fun c Z M => ∃ z7 : Option zV, Z = [some refR, some (.inl (nI y)), some (.inl x), some (.inl (nI (pop6 y))), some (.inl (wbR (jnt A.T y c).1)), some (.inl (nI (jnt A.T y c).2)), some (.inl (nI c)), z7] ∧ M = (I', L, P)) ?_ ?_ ⟨none, rfl, rfl⟩
        · rintro c Z M hc ⟨z7, rfl, rfl⟩ self2 hself2
          have st := jnt_s A.T y c
          obtain ⟨-, jb⟩ := jnt_spec A.T y c
          have cle : ∀ c, cstO A.T none (rwc y c) ≤ 6 := fun c => by
            have := cstO_le A.T (rwc y c) none
            rw [List.length_map, dl_len] at this
            omega
          have cl := cle c
          have skip : jnt A.T y (c + 1) = jnt A.T y c → ∀ z7 : Option zV, self2 [some refR, some (.inl (nI y)), some (.inl x), some (.inl (nI (pop6 y))), some (.inl (wbR (jnt A.T y c).1)), some (.inl (nI (jnt A.T y c).2)), some (.inl (nI (c + 1))), z7] [] (I', L, P) := fun e z7 => by
            rw [← e]
            exact hself2 _ _ ⟨z7, rfl, rfl⟩
          have tak : jnt A.T y (c + 1) = (some c, cstO A.T none (rwc y c)) → ∀ z7 : Option zV, self2 [some refR, some (.inl (nI y)), some (.inl x), some (.inl (nI (pop6 y))), some (.inl (nI c)), some (.inl (nI (cstO A.T none (rwc y c)))), some (.inl (nI (c + 1))), z7] [] (I', L, P) := fun e z7 => by
            refine hself2 _ _ ⟨z7, ?_, rfl⟩
            rw [e]; rfl
          dsimp only [x_int, x_lng, x_ild, x_lld, x_ald, x_ist, x_ast, x_lst, x_inc, x_ii, x_id, x_i, x_ll, x_ld, x_l, x_cmp, x_i2l, x_l2i, x_if, x_ic, x_dup, x_pop, x_dup2, x_gI, x_gL, x_gR, x_g1, x_g0, x_gP, x_pI, x_pZ, x_pL, x_pP, x_al, x_as, x_all, x_asl, x_alr, x_len, x_cpy, x_m2, x_m1, x_m2l, x_m1l, x_call, x_cv, x_ri, x_rz, x_rl, x_rv, zg, zset, zbef, zlong, zcat, cond_true, cond_false, List.take, List.drop, rv1, rv2, rv3, rv4, rv5, rv6, rv7, sm0, sm1, bl0, bl1, bl2, bl3, bl4, bl5, bl6, bl7, bl8, List.nil_append, List.cons_append, List.length_cons, List.length_nil, Nat.reduceBEq, Nat.reduceAdd, Nat.reduceSub, ta, tb, tn0, tn1, tn2, tn3, tn4, tn5, tn6, tn7, tn8, tn9, tn10, tn11, tn12]
          refine p_powerOf (by omega) ?_
          dsimp only [x_int, x_lng, x_ild, x_lld, x_ald, x_ist, x_ast, x_lst, x_inc, x_ii, x_id, x_i, x_ll, x_ld, x_l, x_cmp, x_i2l, x_l2i, x_if, x_ic, x_dup, x_pop, x_dup2, x_gI, x_gL, x_gR, x_g1, x_g0, x_gP, x_pI, x_pZ, x_pL, x_pP, x_al, x_as, x_all, x_asl, x_alr, x_len, x_cpy, x_m2, x_m1, x_m2l, x_m1l, x_call, x_cv, x_ri, x_rz, x_rl, x_rv, zg, zset, zbef, zlong, zcat, cond_true, cond_false, List.take, List.drop, rv1, rv2, rv3, rv4, rv5, rv6, rv7, sm0, sm1, bl0, bl1, bl2, bl3, bl4, bl5, bl6, bl7, bl8, List.nil_append, List.cons_append, List.length_cons, List.length_nil, Nat.reduceBEq, Nat.reduceAdd, Nat.reduceSub, ta, tb, tn0, tn1, tn2, tn3, tn4, tn5, tn6, tn7, tn8, tn9, tn10, tn11, tn12]
          refine ⟨fun q => absurd q (lt_go (n := pop6 y ^ pop6 y) rfl (by omega) hc), fun _ => p_masked hT' hy q2 hc ?_⟩
          dsimp only [x_int, x_lng, x_ild, x_lld, x_ald, x_ist, x_ast, x_lst, x_inc, x_ii, x_id, x_i, x_ll, x_ld, x_l, x_cmp, x_i2l, x_l2i, x_if, x_ic, x_dup, x_pop, x_dup2, x_gI, x_gL, x_gR, x_g1, x_g0, x_gP, x_pI, x_pZ, x_pL, x_pP, x_al, x_as, x_all, x_asl, x_alr, x_len, x_cpy, x_m2, x_m1, x_m2l, x_m1l, x_call, x_cv, x_ri, x_rz, x_rl, x_rv, zg, zset, zbef, zlong, zcat, cond_true, cond_false, List.take, List.drop, rv1, rv2, rv3, rv4, rv5, rv6, rv7, sm0, sm1, bl0, bl1, bl2, bl3, bl4, bl5, bl6, bl7, bl8, List.nil_append, List.cons_append, List.length_cons, List.length_nil, Nat.reduceBEq, Nat.reduceAdd, Nat.reduceSub, ta, tb, tn0, tn1, tn2, tn3, tn4, tn5, tn6, tn7, tn8, tn9, tn10, tn11, tn12, bX12_joint_144, bX12_joint_136]
          rw [n_succ c]
          by_cases v : vlc y c = true
          · rw [if_pos v] at st ⊢
            refine ⟨fun z => ?_, fun _ => ?_⟩
            · have z : nI (cstO A.T none (rwc y c)) < nI 0 := z
              rw [n_lt (by omega) (by omega)] at z
              omega
            · cases e : (jnt A.T y c).1 with
              | none =>
                rw [e] at st
                exact ⟨fun _ => tak st _, fun z => absurd (show (-1 : Int32) < 0 by decide) z⟩
              | some g =>
                obtain ⟨g1, g2, g3, -⟩ := jb g e
                have cg := cle g
                have skip := skip
                rw [e] at st skip
                dsimp only at st
                dsimp only [wbR]
                refine ⟨fun z => ?_, fun _ => ⟨fun z => ?_, fun z => ?_⟩⟩
                · have z : nI g < nI 0 := z
                  rw [n_lt (by omega) (by omega)] at z
                  omega
                · have z : nI (cstO A.T none (rwc y c)) < nI (jnt A.T y c).2 := z
                  rw [n_lt (by omega) (by omega)] at z
                  rw [if_pos z] at st
                  exact tak st _
                · have z : ¬ nI (cstO A.T none (rwc y c)) < nI (jnt A.T y c).2 := z
                  rw [n_lt (by omega) (by omega)] at z
                  rw [if_neg z] at st
                  exact skip st _
          · rw [if_neg v] at st ⊢
            exact ⟨fun _ => skip st _, fun z => absurd (show (-1 : Int32) < 0 by decide) z⟩
        · rintro Z M ⟨z7, rfl, rfl⟩ self2
          dsimp only [x_int, x_lng, x_ild, x_lld, x_ald, x_ist, x_ast, x_lst, x_inc, x_ii, x_id, x_i, x_ll, x_ld, x_l, x_cmp, x_i2l, x_l2i, x_if, x_ic, x_dup, x_pop, x_dup2, x_gI, x_gL, x_gR, x_g1, x_g0, x_gP, x_pI, x_pZ, x_pL, x_pP, x_al, x_as, x_all, x_asl, x_alr, x_len, x_cpy, x_m2, x_m1, x_m2l, x_m1l, x_call, x_cv, x_ri, x_rz, x_rl, x_rv, zg, zset, zbef, zlong, zcat, cond_true, cond_false, List.take, List.drop, rv1, rv2, rv3, rv4, rv5, rv6, rv7, sm0, sm1, bl0, bl1, bl2, bl3, bl4, bl5, bl6, bl7, bl8, List.nil_append, List.cons_append, List.length_cons, List.length_nil, Nat.reduceBEq, Nat.reduceAdd, Nat.reduceSub, ta, tb, tn0, tn1, tn2, tn3, tn4, tn5, tn6, tn7, tn8, tn9, tn10, tn11, tn12]
          refine p_powerOf (by omega) ?_
          dsimp only [x_int, x_lng, x_ild, x_lld, x_ald, x_ist, x_ast, x_lst, x_inc, x_ii, x_id, x_i, x_ll, x_ld, x_l, x_cmp, x_i2l, x_l2i, x_if, x_ic, x_dup, x_pop, x_dup2, x_gI, x_gL, x_gR, x_g1, x_g0, x_gP, x_pI, x_pZ, x_pL, x_pP, x_al, x_as, x_all, x_asl, x_alr, x_len, x_cpy, x_m2, x_m1, x_m2l, x_m1l, x_call, x_cv, x_ri, x_rz, x_rl, x_rv, zg, zset, zbef, zlong, zcat, cond_true, cond_false, List.take, List.drop, rv1, rv2, rv3, rv4, rv5, rv6, rv7, sm0, sm1, bl0, bl1, bl2, bl3, bl4, bl5, bl6, bl7, bl8, List.nil_append, List.cons_append, List.length_cons, List.length_nil, Nat.reduceBEq, Nat.reduceAdd, Nat.reduceSub, ta, tb, tn0, tn1, tn2, tn3, tn4, tn5, tn6, tn7, tn8, tn9, tn10, tn11, tn12, bX12_joint_180]
          rw [j1, j4]
          refine ⟨fun _ => ⟨fun e => ?_, fun e => ?_⟩, fun q => absurd q (lt_out (n := pop6 y ^ pop6 y) rfl)⟩
          · rw [if_pos e] at hk; exact hk
          · have hx : x < nI (pop6 y) := hx.elim (fun z => absurd z e) id
            obtain ⟨w, rfl, hw⟩ := n_of (n := pop6 y) (by omega) ok.1 hx
            rw [if_neg e, ln, if_pos hx, n_cl (n := w) (by omega)] at hk
            have ex : nI (pop6 y) - 1 - nI w = nI (pop6 y - 1 - w) := by
              rw [show (1 : Int32) = nI 1 from rfl, pk_sub (by omega), pk_sub (by omega)]
            rw [ex]
            refine p_powerOf (by omega) ?_
            have pj := pw6 (pop6 y) (by omega) (pop6 y - 1 - w) (by omega)
            have pj0 : 0 < pop6 y ^ (pop6 y - 1 - w) := Nat.pow_pos (by omega)
            have cd : b / pop6 y ^ (pop6 y - 1 - w) ≤ b := Nat.div_le_self _ _
            have d6 : b / pop6 y ^ (pop6 y - 1 - w) % pop6 y < pop6 y := Nat.mod_lt _ (by omega)
            dsimp only [x_int, x_lng, x_ild, x_lld, x_ald, x_ist, x_ast, x_lst, x_inc, x_ii, x_id, x_i, x_ll, x_ld, x_l, x_cmp, x_i2l, x_l2i, x_if, x_ic, x_dup, x_pop, x_dup2, x_gI, x_gL, x_gR, x_g1, x_g0, x_gP, x_pI, x_pZ, x_pL, x_pP, x_al, x_as, x_all, x_asl, x_alr, x_len, x_cpy, x_m2, x_m1, x_m2l, x_m1l, x_call, x_cv, x_ri, x_rz, x_rl, x_rv, zg, zset, zbef, zlong, zcat, cond_true, cond_false, List.take, List.drop, rv1, rv2, rv3, rv4, rv5, rv6, rv7, sm0, sm1, bl0, bl1, bl2, bl3, bl4, bl5, bl6, bl7, bl8, List.nil_append, List.cons_append, List.length_cons, List.length_nil, Nat.reduceBEq, Nat.reduceAdd, Nat.reduceSub, ta, tb, tn0, tn1, tn2, tn3, tn4, tn5, tn6, tn7, tn8, tn9, tn10, tn11, tn12, zk_88, zl_88, wbR, bX12_joint_180]
            rw [pk_div (by omega) pj0 (by omega), pk_rem (by omega) (by omega) (by omega), n_cl (n := b / pop6 y ^ (pop6 y - 1 - w) % pop6 y) (by omega), q2 _ d6]
            refine ⟨fun z => ?_, fun z => ?_, n_zin (by omega) (by decide), ?_⟩
            · have z : nI (pop6 y ^ (pop6 y - 1 - w)) = nI 0 := z
              rw [n_eq (by omega) (by omega)] at z
              omega
            · have z : nI (pop6 y) = nI 0 := z
              rw [n_eq (by omega) (by omega)] at z
              omega
            · have eg : (G0 A.T y).getD w 0 = msb y (b / pop6 y ^ (pop6 y - 1 - w) % pop6 y) := by
                rw [← j3, ← dl_get hw]
                have hl := dl_len (pop6 y) b (pop6 y)
                rw [List.getD_eq_getElem?_getD, List.getD_eq_getElem?_getD, List.getElem?_map, List.getElem?_eq_getElem (by omega)]
                rfl
              rw [eg] at hk
              exact hk
      dsimp only [x_int, x_lng, x_ild, x_lld, x_ald, x_ist, x_ast, x_lst, x_inc, x_ii, x_id, x_i, x_ll, x_ld, x_l, x_cmp, x_i2l, x_l2i, x_if, x_ic, x_dup, x_pop, x_dup2, x_gI, x_gL, x_gR, x_g1, x_g0, x_gP, x_pI, x_pZ, x_pL, x_pP, x_al, x_as, x_all, x_asl, x_alr, x_len, x_cpy, x_m2, x_m1, x_m2l, x_m1l, x_call, x_cv, x_ri, x_rz, x_rl, x_rv, zg, zset, zbef, zlong, zcat, cond_true, cond_false, List.take, List.drop, rv1, rv2, rv3, rv4, rv5, rv6, rv7, sm0, sm1, bl0, bl1, bl2, bl3, bl4, bl5, bl6, bl7, bl8, List.nil_append, List.cons_append, List.length_cons, List.length_nil, Nat.reduceBEq, Nat.reduceAdd, Nat.reduceSub, ta, tb, tn0, tn1, tn2, tn3, tn4, tn5, tn6, tn7, tn8, tn9, tn10, tn11, tn12]
      rw [h12]
      refine ⟨fun _ => ⟨fun z => main (Or.inl (Int32.le_antisymm ok.2 z)), fun z => ⟨fun d => main (Or.inr d), fun d => ?_⟩⟩, fun q => absurd q (lt_out (n := A.T.1 0) rfl)⟩
      have d : ¬ x < nI (pop6 y) := d
      rw [if_neg (fun e => z (by rw [e]; exact Int32.le_refl _)), ln, if_neg d] at hk
      exact hk
  · dsimp only [x_int, x_lng, x_ild, x_lld, x_ald, x_ist, x_ast, x_lst, x_inc, x_ii, x_id, x_i, x_ll, x_ld, x_l, x_cmp, x_i2l, x_l2i, x_if, x_ic, x_dup, x_pop, x_dup2, x_gI, x_gL, x_gR, x_g1, x_g0, x_gP, x_pI, x_pZ, x_pL, x_pP, x_al, x_as, x_all, x_asl, x_alr, x_len, x_cpy, x_m2, x_m1, x_m2l, x_m1l, x_call, x_cv, x_ri, x_rz, x_rl, x_rv, zg, zset, zbef, zlong, zcat, cond_true, cond_false, List.take, List.drop, rv1, rv2, rv3, rv4, rv5, rv6, rv7, sm0, sm1, bl0, bl1, bl2, bl3, bl4, bl5, bl6, bl7, bl8, List.nil_append, List.cons_append, List.length_cons, List.length_nil, Nat.reduceBEq, Nat.reduceAdd, Nat.reduceSub, ta, tb, tn0, tn1, tn2, tn3, tn4, tn5, tn6, tn7, tn8, tn9, tn10, tn11, tn12, bX12_joint_29]
    exact ⟨fun _ => bad (fun z => no z.2), fun z => absurd rfl z⟩
