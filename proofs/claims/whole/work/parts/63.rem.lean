theorem snp.of {T : aT} {S : aS} {I I' : zI} {k o k' o' : Nat} (h6 : T.1 0 ≤ 6) (w4 : T.1 1 ≤ 4) (r10 : T.1 2 ≤ 10) (h : snp T S I k o) (e : ∀ c, c < 40 → I' k' 0 (o' + c) = I k 0 (o + c)) : snp T S I' k' o' := by
  obtain ⟨h1, h2, h3⟩ := h
  refine ⟨fun x hx => (e x (by omega)).trans (h1 x hx), fun r hr => ?_, fun w hw => ?_⟩
  · obtain ⟨a, b, c⟩ := h2 r hr
    rw [show o' + 6 + r = o' + (6 + r) by omega, show o' + 16 + r = o' + (16 + r) by omega, show o' + 26 + r = o' + (26 + r) by omega, e _ (by omega), e _ (by omega), e _ (by omega), show o + (6 + r) = o + 6 + r by omega, show o + (16 + r) = o + 16 + r by omega, show o + (26 + r) = o + 26 + r by omega]
    exact ⟨a, b, c⟩
  · rw [show o' + 36 + w = o' + (36 + w) by omega, e _ (by omega), show o + (36 + w) = o + 36 + w by omega]; exact h3 w hw
/-- what is put is a snapshot -/
theorem snp_put {T : aT} {S : aS} {I I' : zI} {ka o : Nat} (h6 : T.1 0 ≤ 6) (w4 : T.1 1 ≤ 4) (r10 : T.1 2 ≤ 10) (hp : pln I) (hS : RS I 0 T S) (p1 : wr I' ka o 6 (I 76 0)) (p2 : wr I' ka (o + 6) 10 (I 79 0)) (p3 : wr I' ka (o + 16) 10 (I 80 0)) (hz : ∀ c, c < T.1 2 → zb (I 83 0 c)) (p4 : wr I' ka (o + 26) 10 (fun c => if I 83 0 c = 0 then 0 else 1)) (p5 : wr I' ka (o + 36) 4 (I 78 0)) : snp T S I' ka o := by
  obtain ⟨a1, a2, a3, -⟩ := hS
  refine ⟨fun x hx => ?_, fun x hx => ?_, fun x hx => ?_⟩
  · have := (a1 x hx).1
    rw [coldR_pln hp (by omega), show 6 * 0 + x = x by omega] at this
    exact (p1 x (by omega)).trans this
  · obtain ⟨b1, b2, b3, b4, b5, -⟩ := a3 x hx
    rw [show 10 * 0 + x = x by omega] at b1 b2 b5
    exact ⟨(p2 x (by omega)).trans b1, (p3 x (by omega)).trans b2, ((p4 x (by omega)).trans (by show (if I 83 0 x = 0 then (0 : Int32) else 1) = _; rcases hz x hx with z | z <;> rw [z] <;> decide)).trans b5⟩
  · have := (a2 x hx).2
    rw [show 4 * 0 + x = x by omega] at this
    exact (p5 x (by omega)).trans this
abbrev remF (a c : Nat) : Prop := a = 91 ∨ (a = 12 ∧ c = 73)
theorem p_remember {K : zQ} {I : zI} {L : zJ} {P : zP} {A : aA} (hu : A.U.1 ≤ 20) (hR : RR A I L) (hK : ∀ I' : zI, ony remF I I' → I' 12 0 73 = nI (push A.U A.S).1 → (∀ i, i < (push A.U A.S).1 → snp A.T ((push A.U A.S).2 i) I' 91 (40 * i)) → K [] (I', L, P)) : mX12_remember K [refR] (I, L, P) := by
  obtain ⟨hT, hS, hp, hz, -, -, hU, -⟩ := hR
  have h6 := hT.h6
  have w4 := hT.w4
  have r10 := hT.r10
  have fin : ∀ (I1 : zI) (z1 : Option zV), ony remF I I1 → I1 12 0 73 = nI (pN A.U) → (∀ c, c < 40 * pN A.U → I1 91 0 c = I 91 0 (c + 40 * pD A.U)) → bX12_remember_49 K [some refR, z1] [] (I1, L, P) := fun I1 z1 f1 s1 c1 => by
    have hn : pN A.U ≤ 19 := by unfold pN; omega
    have hu : A.U.1 = pN A.U + pD A.U := by unfold pN pD; omega
    unfold bX12_remember_49
    dsimp only [x_int, x_lng, x_ild, x_lld, x_ald, x_ist, x_ast, x_lst, x_inc, x_ii, x_id, x_i, x_ll, x_ld, x_l, x_cmp, x_i2l, x_l2i, x_if, x_ic, x_dup, x_pop, x_dup2, x_gI, x_gL, x_gR, x_g1, x_g0, x_gP, x_pI, x_pZ, x_pL, x_pP, x_al, x_as, x_all, x_asl, x_alr, x_len, x_cpy, x_m2, x_m1, x_m2l, x_m1l, x_call, x_cv, x_ri, x_rz, x_rl, x_rv, zg, zset, zbef, zlong, zcat, cond_true, cond_false, List.take, List.drop, rv1, rv2, rv3, rv4, rv5, rv6, rv7, sm0, sm1, bl0, bl1, bl2, bl3, bl4, bl5, bl6, bl7, bl8, List.nil_append, List.cons_append, List.length_cons, List.length_nil, Nat.reduceBEq, Nat.reduceAdd, Nat.reduceSub, ta, tb, tn0, tn1, tn2, tn3, tn4, tn5, tn6, tn7, tn8, tn9, tn10, tn11, tn12]
    rw [s1, show (40 : Int32) * nI (pN A.U) = nI (40 * pN A.U) from n_mul 40 _]
    refine p_put (Or.inl rfl) rfl (by show _ ≤ 800; omega) (by decide) (fun I2 f2 p1 p2 p3 p4 p5 => ?_)
    dsimp only [x_int, x_lng, x_ild, x_lld, x_ald, x_ist, x_ast, x_lst, x_inc, x_ii, x_id, x_i, x_ll, x_ld, x_l, x_cmp, x_i2l, x_l2i, x_if, x_ic, x_dup, x_pop, x_dup2, x_gI, x_gL, x_gR, x_g1, x_g0, x_gP, x_pI, x_pZ, x_pL, x_pP, x_al, x_as, x_all, x_asl, x_alr, x_len, x_cpy, x_m2, x_m1, x_m2l, x_m1l, x_call, x_cv, x_ri, x_rz, x_rl, x_rv, zg, zset, zbef, zlong, zcat, cond_true, cond_false, List.take, List.drop, rv1, rv2, rv3, rv4, rv5, rv6, rv7, sm0, sm1, bl0, bl1, bl2, bl3, bl4, bl5, bl6, bl7, bl8, List.nil_append, List.cons_append, List.length_cons, List.length_nil, Nat.reduceBEq, Nat.reduceAdd, Nat.reduceSub, ta, tb, tn0, tn1, tn2, tn3, tn4, tn5, tn6, tn7, tn8, tn9, tn10, tn11, tn12]
    have s2 : I2 12 0 73 = nI (pN A.U) := (f2.lo (by omega)).trans s1
    rw [s2, n_succ]
    have f3 : ony remF I I2 := f1.tr (f2.mono (fun a c z => Or.inl z.1))
    have p12 : pln I1 := by
      obtain ⟨z1, z2, z3, z4, z5⟩ := hp
      exact ⟨(f1.lo (by decide)).trans z1, (f1.lo (by decide)).trans z2, (f1.lo (by decide)).trans z3, (f1.lo (by decide)).trans z4, (f1.lo (by decide)).trans z5⟩
    have hS1 : RS I1 0 A.T A.S := hS.fr (fun a c q => f1.lo (fun z => by
      unfold rsK at q
      simp only [Bool.or_eq_true, Bool.and_eq_true, Nat.ble_eq, beq_iff_eq] at q
      omega))
    refine hK _ (f3.set (Or.inr ⟨rfl, rfl⟩)) (by simp [zsI]; rfl) (fun i hi => ?_)
    have hi : i < pN A.U + 1 := hi
    refine snp.q (I := I2) ?_ (fun c => by simp [zsI])
    by_cases z : i = pN A.U
    · subst z
      have u1 : (push A.U A.S).2 (pN A.U) = A.S := if_pos rfl
      rw [u1]
      exact snp_put h6 w4 r10 p12 hS1 p1 p2 p3 (fun c hc => by rw [f1.lo (by omega)]; exact hz c hc) p4 p5
    · have u1 : (push A.U A.S).2 i = A.U.2 (i + pD A.U) := if_neg z
      rw [u1]
      refine snp.of h6 w4 r10 (hU.2 (i + pD A.U) (by omega)) (fun c hc => ?_)
      rw [f2.lo (by omega), c1 _ (by omega), show 40 * i + c + 40 * pD A.U = 40 * (i + pD A.U) + c by omega]
  show bX12_remember_0 K [some (.inr (.inr (12,0))), none] [] (I, L, P)
  unfold bX12_remember_0
  dsimp only [x_int, x_lng, x_ild, x_lld, x_ald, x_ist, x_ast, x_lst, x_inc, x_ii, x_id, x_i, x_ll, x_ld, x_l, x_cmp, x_i2l, x_l2i, x_if, x_ic, x_dup, x_pop, x_dup2, x_gI, x_gL, x_gR, x_g1, x_g0, x_gP, x_pI, x_pZ, x_pL, x_pP, x_al, x_as, x_all, x_asl, x_alr, x_len, x_cpy, x_m2, x_m1, x_m2l, x_m1l, x_call, x_cv, x_ri, x_rz, x_rl, x_rv, zg, zset, zbef, zlong, zcat, cond_true, cond_false, List.take, List.drop, rv1, rv2, rv3, rv4, rv5, rv6, rv7, sm0, sm1, bl0, bl1, bl2, bl3, bl4, bl5, bl6, bl7, bl8, List.nil_append, List.cons_append, List.length_cons, List.length_nil, Nat.reduceBEq, Nat.reduceAdd, Nat.reduceSub, ta, tb, tn0, tn1, tn2, tn3, tn4, tn5, tn6, tn7, tn8, tn9, tn10, tn11, tn12]
  rw [hU.1]
  refine ⟨fun c => ?_, fun c => ?_⟩
  · rw [show (20 : Int32) = nI 20 from rfl, n_eq (by omega) (by decide)] at c
    have e1 : pN A.U = 19 := by unfold pN; omega
    have e2 : pD A.U = 1 := by unfold pD; omega
    refine zinv 760 (fun n Z M => ∃ I' : zI, Z = [some refR, some (.inl (nI n))] ∧ M = (I', L, P) ∧ ony (fun a c => a = 91 ∧ c < n) I I' ∧ wr I' 91 0 n (fun c => I 91 0 (c + 40))) ?_ ?_ ⟨I, rfl, rfl, ony.rf, wr.z⟩
    · rintro n Z M hn ⟨I', rfl, rfl, hI, h1⟩ self hself
      dsimp only [x_int, x_lng, x_ild, x_lld, x_ald, x_ist, x_ast, x_lst, x_inc, x_ii, x_id, x_i, x_ll, x_ld, x_l, x_cmp, x_i2l, x_l2i, x_if, x_ic, x_dup, x_pop, x_dup2, x_gI, x_gL, x_gR, x_g1, x_g0, x_gP, x_pI, x_pZ, x_pL, x_pP, x_al, x_as, x_all, x_asl, x_alr, x_len, x_cpy, x_m2, x_m1, x_m2l, x_m1l, x_call, x_cv, x_ri, x_rz, x_rl, x_rv, zg, zset, zbef, zlong, zcat, cond_true, cond_false, List.take, List.drop, rv1, rv2, rv3, rv4, rv5, rv6, rv7, sm0, sm1, bl0, bl1, bl2, bl3, bl4, bl5, bl6, bl7, bl8, List.nil_append, List.cons_append, List.length_cons, List.length_nil, Nat.reduceBEq, Nat.reduceAdd, Nat.reduceSub, ta, tb, tn0, tn1, tn2, tn3, tn4, tn5, tn6, tn7, tn8, tn9, tn10, tn11, tn12, zk_91, zl_91]
      rw [show nI n + 40 = nI (n + 40) from n_add n 40, n_cl (n := n) (by omega), n_cl (n := n + 40) (by omega), n_succ n]
      exact ⟨fun c => absurd c (lt_go (n := 760) rfl (by omega) hn), fun _ => ⟨n_zin (by omega) (by decide), n_zin (by omega) (by decide), hself _ _ ⟨_, rfl, rfl, (hI.mono (fun a c z => ⟨z.1, by omega⟩)).set ⟨rfl, by omega⟩, h1.set (by omega) (hI.lo (by omega))⟩⟩⟩
    · rintro Z M ⟨I', rfl, rfl, hI, h1⟩ self
      dsimp only [x_int, x_lng, x_ild, x_lld, x_ald, x_ist, x_ast, x_lst, x_inc, x_ii, x_id, x_i, x_ll, x_ld, x_l, x_cmp, x_i2l, x_l2i, x_if, x_ic, x_dup, x_pop, x_dup2, x_gI, x_gL, x_gR, x_g1, x_g0, x_gP, x_pI, x_pZ, x_pL, x_pP, x_al, x_as, x_all, x_asl, x_alr, x_len, x_cpy, x_m2, x_m1, x_m2l, x_m1l, x_call, x_cv, x_ri, x_rz, x_rl, x_rv, zg, zset, zbef, zlong, zcat, cond_true, cond_false, List.take, List.drop, rv1, rv2, rv3, rv4, rv5, rv6, rv7, sm0, sm1, bl0, bl1, bl2, bl3, bl4, bl5, bl6, bl7, bl8, List.nil_append, List.cons_append, List.length_cons, List.length_nil, Nat.reduceBEq, Nat.reduceAdd, Nat.reduceSub, ta, tb, tn0, tn1, tn2, tn3, tn4, tn5, tn6, tn7, tn8, tn9, tn10, tn11, tn12]
      rw [hI.lo (by omega), hU.1, c, show nI 20 - 1 = nI 19 from rfl]
      refine ⟨fun _ => fin _ _ (ony.set (hI.mono (fun a c z => Or.inl z.1)) (Or.inr ⟨rfl, rfl⟩)) (by rw [e1]; simp [zsI]) (fun x hx => ?_), fun c => absurd c (lt_out (n := 760) rfl)⟩
      rw [e1] at hx
      rw [e2]
      show I' 91 0 x = _
      exact h1.get hx
  · rw [show (20 : Int32) = nI 20 from rfl, n_eq (by omega) (by decide)] at c
    have e1 : pN A.U = A.U.1 := by unfold pN; omega
    have e2 : pD A.U = 0 := by unfold pD; omega
    exact fin I _ ony.rf (by rw [e1]; exact hU.1) (fun c _ => by rw [e2]; rfl)
-- warm
theorem frX_of {I I' : zI} {L : zJ} (h : ∀ a b c, (a = 12 ∨ 51 ≤ a) → I' a b c = I a b c) : frX I I' L L := ⟨h, fun _ _ _ _ => rfl⟩
theorem uE.rf {T : aT} {S : aS} : uE T S S := ⟨fun _ _ => rfl, fun _ _ => rfl, fun _ _ => ⟨rfl, rfl, rfl⟩⟩
theorem uE_of {T : aT} {S S' : aS} (h : ∀ f i, S f i = S' f i) : uE T S S' := ⟨fun _ _ => h _ _, fun _ _ => h _ _, fun _ _ => ⟨h _ _, h _ _, h _ _⟩⟩
theorem su_su {S : aS} {f i : Nat} {v w : Int32} (a b : Nat) (h : w = S f i) : S a b = su (su S f i v) f i w a b := by
  unfold su
  by_cases e : a = f ∧ b = i
  · rw [if_pos e, h, e.1, e.2]
  · rw [if_neg e, if_neg e]
