theorem zsI_id {I : zI} {L : zJ} {P : zP} {k i s : Nat} {v : Int32} (h : I k i s = v) : zsI (I, L, P) k i s v = (I, L, P) := by
  unfold zsI
  congr 1
  funext a b c
  by_cases e : a = k ∧ b = i ∧ c = s
  · rw [if_pos e, e.1, e.2.1, e.2.2]; exact h.symm
  · rw [if_neg e]
def pln (I : zI) : Prop := I 12 0 63 = 0 ∧ I 12 0 64 = -1 ∧ I 12 0 65 = -1 ∧ I 12 0 66 = -1 ∧ I 12 0 67 = 0
theorem p_plainTried {K : zQ} {I : zI} {L : zJ} {P : zP} (h : pln I) (hK : K [] (I, L, P)) : mX12_plainTried K [.inr (.inr (12, 0))] (I, L, P) := by
  obtain ⟨h1, h2, h3, h4, h5⟩ := h
  show bX12_plainTried_0 K [some (.inr (.inr (12,0)))] [] (I, L, P)
  unfold bX12_plainTried_0
  dsimp only [x_int, x_lng, x_ild, x_lld, x_ald, x_ist, x_ast, x_lst, x_inc, x_ii, x_id, x_i, x_ll, x_ld, x_l, x_cmp, x_i2l, x_l2i, x_if, x_ic, x_dup, x_pop, x_dup2, x_gI, x_gL, x_gR, x_g1, x_g0, x_gP, x_pI, x_pZ, x_pL, x_pP, x_al, x_as, x_all, x_asl, x_alr, x_len, x_cpy, x_m2, x_m1, x_m2l, x_m1l, x_call, x_cv, x_ri, x_rz, x_rl, x_rv, zg, zset, zbef, zlong, zcat, cond_true, cond_false, List.take, List.drop, rv1, rv2, rv3, rv4, rv5, rv6, rv7, sm0, sm1, bl0, bl1, bl2, bl3, bl4, bl5, bl6, bl7, bl8, List.nil_append, List.cons_append, List.length_cons, List.length_nil, Nat.reduceBEq, Nat.reduceAdd, Nat.reduceSub, ta, tb, tn0, tn1, tn2, tn3, tn4, tn5, tn6, tn7, tn8, tn9, tn10, tn11, tn12]
  rw [zsI_id h1, zsI_id h2, zsI_id h3, zsI_id h4, zsI_id h5]
  exact ⟨Or.inl rfl, hK⟩
def plnM (M : zM) : zM := zsI (zsI (zsI (zsI (zsI M 12 0 63 0) 12 0 64 (-1)) 12 0 65 (-1)) 12 0 66 (-1)) 12 0 67 0
theorem p_plain0 {K : zQ} {M : zM} (hK : K [] (plnM M)) : mX12_plainTried K [.inr (.inr (12, 0))] M := by
  show bX12_plainTried_0 K [some (.inr (.inr (12,0)))] [] M
  unfold bX12_plainTried_0
  dsimp only [x_int, x_lng, x_ild, x_lld, x_ald, x_ist, x_ast, x_lst, x_inc, x_ii, x_id, x_i, x_ll, x_ld, x_l, x_cmp, x_i2l, x_l2i, x_if, x_ic, x_dup, x_pop, x_dup2, x_gI, x_gL, x_gR, x_g1, x_g0, x_gP, x_pI, x_pZ, x_pL, x_pP, x_al, x_as, x_all, x_asl, x_alr, x_len, x_cpy, x_m2, x_m1, x_m2l, x_m1l, x_call, x_cv, x_ri, x_rz, x_rl, x_rv, zg, zset, zbef, zlong, zcat, cond_true, cond_false, List.take, List.drop, rv1, rv2, rv3, rv4, rv5, rv6, rv7, sm0, sm1, bl0, bl1, bl2, bl3, bl4, bl5, bl6, bl7, bl8, List.nil_append, List.cons_append, List.length_cons, List.length_nil, Nat.reduceBEq, Nat.reduceAdd, Nat.reduceSub, ta, tb, tn0, tn1, tn2, tn3, tn4, tn5, tn6, tn7, tn8, tn9, tn10, tn11, tn12]
  exact ⟨Or.inl rfl, hK⟩
theorem plnM_id {I : zI} {L : zJ} {P : zP} (h : pln I) : plnM (I, L, P) = (I, L, P) := by
  obtain ⟨h1, h2, h3, h4, h5⟩ := h
  unfold plnM
  rw [zsI_id h1, zsI_id h2, zsI_id h3, zsI_id h4, zsI_id h5]
def upH (a c : Nat) : Prop := ((a = 76 ∨ a = 77) ∧ 6 ≤ c) ∨ (a = 78 ∧ 4 ≤ c) ∨ ((a = 79 ∨ a = 80 ∨ a = 81 ∨ a = 82 ∨ a = 83 ∨ a = 84) ∧ 10 ≤ c) ∨ (a = 85 ∧ 60 ≤ c) ∨ (a = 86 ∧ c = 1)
def frU (I I' : zI) : Prop := ∀ a i c, ¬ (i = 0 ∧ upH a c) → I' a i c = I a i c
theorem frU.rf {I : zI} : frU I I := fun _ _ _ _ => rfl
theorem frU_set {I I' : zI} {L : zJ} {P : zP} {k s : Nat} {v : Int32} (h : frU I I') (hu : upH k s) : frU I (zsI (I', L, P) k 0 s v).1 := fun a i c q => by
  show (if a = k ∧ i = 0 ∧ c = s then v else I' a i c) = _
  rw [if_neg (fun e => q ⟨e.2.1, by rw [e.1, e.2.2]; exact hu⟩)]
  exact h a i c q
def cpd (I I' : zI) (k off n : Nat) : Prop := ∀ c, c < n → I' k 0 (off + c) = I k 0 c
theorem cpd_set {I I' : zI} {L : zJ} {P : zP} {k off n : Nat} {v : Int32} (h : cpd I I' k off n) (hv : v = I k 0 n) : cpd I (zsI (I', L, P) k 0 (off + n) v).1 k off (n + 1) := fun c hc => by
  show (if k = k ∧ 0 = 0 ∧ off + c = off + n then v else I' k 0 (off + c)) = _
  by_cases e : c = n
  · rw [if_pos ⟨rfl, rfl, by omega⟩, e]; exact hv
  · rw [if_neg (fun z => e (by omega))]; exact h c (by omega)
theorem cpd_ne {I I' : zI} {L : zJ} {P : zP} {k k' off n s : Nat} {v : Int32} (h : cpd I I' k off n) (hk : ¬ k = k') : cpd I (zsI (I', L, P) k' 0 s v).1 k off n := fun c hc => by
  show (if k = k' ∧ 0 = 0 ∧ off + c = s then v else I' k 0 (off + c)) = _
  rw [if_neg (fun z => hk z.1)]; exact h c hc
theorem nar01 {x : Int32} (h : zb x) : vp_nar .boolean x = x := by
  rcases h with rfl | rfl
  · exact nar0
  · exact nar1
/-- all is copied -/
def nbI (I : zI) : zI := fun a b c => vp_nar .boolean (I a b c)
def laid (I I' : zI) : Prop := frU I I' ∧ cpd I I' 76 6 6 ∧ cpd I I' 77 6 6 ∧ cpd I I' 78 4 4 ∧ cpd I I' 79 10 10 ∧ cpd I I' 80 10 10 ∧ cpd I I' 81 10 10 ∧ cpd I I' 82 10 10 ∧ cpd (nbI I) I' 83 10 10 ∧ cpd I I' 84 10 10 ∧ cpd I I' 85 60 60 ∧ I' 86 0 1 = I 86 0 0
theorem n_off (a b : Nat) : nI a + nI b = nI (a + b) := n_add a b
set_option maxHeartbeats 2000000 in
theorem p_layTried0 {K : zQ} {I : zI} {L : zJ} {P : zP} (hK : ∀ I' : zI, laid I I' → K [] (plnM (I', L, P))) : mX12_layTried K [.inr (.inr (12, 0))] (I, L, P) := by
  have o6 : ∀ n : Nat, (6 : Int32) + nI n = nI (6 + n) := fun n => n_add 6 n
  have o4 : ∀ n : Nat, (4 : Int32) + nI n = nI (4 + n) := fun n => n_add 4 n
  have o10 : ∀ n : Nat, (10 : Int32) + nI n = nI (10 + n) := fun n => n_add 10 n
  have o60 : ∀ n : Nat, (60 : Int32) + nI n = nI (60 + n) := fun n => n_add 60 n
  show bX12_layTried_2 K [some (.inr (.inr (12, 0))), some (.inl 0)] [] (I, L, P)
  refine zinv 6 (fun n Z M => ∃ I' : zI, Z = [some (.inr (.inr (12, 0))), some (.inl (nI n))] ∧ M = (I', L, P) ∧ frU I I' ∧ cpd I I' 76 6 n ∧ cpd I I' 77 6 n) ?_ ?_ ⟨I, rfl, rfl, frU.rf, fun c hc => absurd hc (by omega), fun c hc => absurd hc (by omega)⟩
  · rintro n Z M hn ⟨I', rfl, rfl, hI, h1, h2⟩ self hself
    have r1 : I' 76 0 n = I 76 0 n := hI 76 0 n (fun e => by rcases e.2 with e | e | e | e | e <;> omega)
    have r2 : I' 77 0 n = I 77 0 n := hI 77 0 n (fun e => by rcases e.2 with e | e | e | e | e <;> omega)
    have r3 : ∀ v, (zsI (I', L, P) 76 0 (6 + n) v).1 77 0 n = I 77 0 n := fun v => by
      show (if 77 = 76 ∧ 0 = 0 ∧ n = 6 + n then v else I' 77 0 n) = _
      rw [if_neg (fun z => absurd z.1 (by decide))]; exact r2
    dsimp only [x_int, x_lng, x_ild, x_lld, x_ald, x_ist, x_ast, x_lst, x_inc, x_ii, x_id, x_i, x_ll, x_ld, x_l, x_cmp, x_i2l, x_l2i, x_if, x_ic, x_dup, x_pop, x_dup2, x_gI, x_gL, x_gR, x_g1, x_g0, x_gP, x_pI, x_pZ, x_pL, x_pP, x_al, x_as, x_all, x_asl, x_alr, x_len, x_cpy, x_m2, x_m1, x_m2l, x_m1l, x_call, x_cv, x_ri, x_rz, x_rl, x_rv, zg, zset, zbef, zlong, zcat, cond_true, cond_false, List.take, List.drop, rv1, rv2, rv3, rv4, rv5, rv6, rv7, sm0, sm1, bl0, bl1, bl2, bl3, bl4, bl5, bl6, bl7, bl8, List.nil_append, List.cons_append, List.length_cons, List.length_nil, Nat.reduceBEq, Nat.reduceAdd, Nat.reduceSub, ta, tb, tn0, tn1, tn2, tn3, tn4, tn5, tn6, tn7, tn8, tn9, tn10, tn11, tn12, zk_76, zl_76, zk_77, zl_77]
    rw [o6, n_cl (n := n) (by omega), n_cl (n := 6 + n) (by omega), r1, r3, n_succ]
    refine ⟨fun c => absurd c (lt_go (n := 6) rfl (by omega) hn), fun _ => ⟨n_zin (by omega) (by decide), n_zin (by omega) (by decide), n_zin (by omega) (by decide), n_zin (by omega) (by decide), ?_⟩⟩
    exact hself _ _ ⟨_, rfl, rfl, frU_set (I' := (zsI (I', L, P) 76 0 (6 + n) (I 76 0 n)).1) (L := L) (P := P) (frU_set hI (Or.inl ⟨Or.inl rfl, by omega⟩)) (Or.inl ⟨Or.inr rfl, by omega⟩), cpd_ne (I' := (zsI (I', L, P) 76 0 (6 + n) (I 76 0 n)).1) (L := L) (P := P) (cpd_set h1 rfl) (by decide), cpd_set (I' := (zsI (I', L, P) 76 0 (6 + n) (I 76 0 n)).1) (L := L) (P := P) (cpd_ne h2 (by decide)) rfl⟩
  rintro Z M ⟨I6, rfl, rfl, hI6, h76, h77⟩ self
  dsimp only [x_int, x_lng, x_ild, x_lld, x_ald, x_ist, x_ast, x_lst, x_inc, x_ii, x_id, x_i, x_ll, x_ld, x_l, x_cmp, x_i2l, x_l2i, x_if, x_ic, x_dup, x_pop, x_dup2, x_gI, x_gL, x_gR, x_g1, x_g0, x_gP, x_pI, x_pZ, x_pL, x_pP, x_al, x_as, x_all, x_asl, x_alr, x_len, x_cpy, x_m2, x_m1, x_m2l, x_m1l, x_call, x_cv, x_ri, x_rz, x_rl, x_rv, zg, zset, zbef, zlong, zcat, cond_true, cond_false, List.take, List.drop, rv1, rv2, rv3, rv4, rv5, rv6, rv7, sm0, sm1, bl0, bl1, bl2, bl3, bl4, bl5, bl6, bl7, bl8, List.nil_append, List.cons_append, List.length_cons, List.length_nil, Nat.reduceBEq, Nat.reduceAdd, Nat.reduceSub, ta, tb, tn0, tn1, tn2, tn3, tn4, tn5, tn6, tn7, tn8, tn9, tn10, tn11, tn12]
  refine ⟨fun _ => ?_, fun c => absurd c (lt_out (n := 6) rfl)⟩
  refine zinv 4 (fun n Z M => ∃ I' : zI, Z = [some (.inr (.inr (12, 0))), some (.inl (nI n))] ∧ M = (I', L, P) ∧ frU I I' ∧ cpd I I' 76 6 6 ∧ cpd I I' 77 6 6 ∧ cpd I I' 78 4 n) ?_ ?_ ⟨I6, rfl, rfl, hI6, h76, h77, fun c hc => absurd hc (by omega)⟩
  · rintro n Z M hn ⟨I', rfl, rfl, hI, h1, h2, h3⟩ self hself
    have r1 : I' 78 0 n = I 78 0 n := hI 78 0 n (fun e => by rcases e.2 with e | e | e | e | e <;> omega)
    dsimp only [x_int, x_lng, x_ild, x_lld, x_ald, x_ist, x_ast, x_lst, x_inc, x_ii, x_id, x_i, x_ll, x_ld, x_l, x_cmp, x_i2l, x_l2i, x_if, x_ic, x_dup, x_pop, x_dup2, x_gI, x_gL, x_gR, x_g1, x_g0, x_gP, x_pI, x_pZ, x_pL, x_pP, x_al, x_as, x_all, x_asl, x_alr, x_len, x_cpy, x_m2, x_m1, x_m2l, x_m1l, x_call, x_cv, x_ri, x_rz, x_rl, x_rv, zg, zset, zbef, zlong, zcat, cond_true, cond_false, List.take, List.drop, rv1, rv2, rv3, rv4, rv5, rv6, rv7, sm0, sm1, bl0, bl1, bl2, bl3, bl4, bl5, bl6, bl7, bl8, List.nil_append, List.cons_append, List.length_cons, List.length_nil, Nat.reduceBEq, Nat.reduceAdd, Nat.reduceSub, ta, tb, tn0, tn1, tn2, tn3, tn4, tn5, tn6, tn7, tn8, tn9, tn10, tn11, tn12, zk_78, zl_78]
    rw [o4, n_cl (n := n) (by omega), n_cl (n := 4 + n) (by omega), r1, n_succ]
    refine ⟨fun c => absurd c (lt_go (n := 4) rfl (by omega) hn), fun _ => ⟨n_zin (by omega) (by decide), n_zin (by omega) (by decide), ?_⟩⟩
    exact hself _ _ ⟨_, rfl, rfl, frU_set hI (Or.inr (Or.inl ⟨rfl, by omega⟩)), cpd_ne h1 (by decide), cpd_ne h2 (by decide), cpd_set h3 rfl⟩
  rintro Z M ⟨I4, rfl, rfl, hI4, h76, h77, h78⟩ self
  dsimp only [x_int, x_lng, x_ild, x_lld, x_ald, x_ist, x_ast, x_lst, x_inc, x_ii, x_id, x_i, x_ll, x_ld, x_l, x_cmp, x_i2l, x_l2i, x_if, x_ic, x_dup, x_pop, x_dup2, x_gI, x_gL, x_gR, x_g1, x_g0, x_gP, x_pI, x_pZ, x_pL, x_pP, x_al, x_as, x_all, x_asl, x_alr, x_len, x_cpy, x_m2, x_m1, x_m2l, x_m1l, x_call, x_cv, x_ri, x_rz, x_rl, x_rv, zg, zset, zbef, zlong, zcat, cond_true, cond_false, List.take, List.drop, rv1, rv2, rv3, rv4, rv5, rv6, rv7, sm0, sm1, bl0, bl1, bl2, bl3, bl4, bl5, bl6, bl7, bl8, List.nil_append, List.cons_append, List.length_cons, List.length_nil, Nat.reduceBEq, Nat.reduceAdd, Nat.reduceSub, ta, tb, tn0, tn1, tn2, tn3, tn4, tn5, tn6, tn7, tn8, tn9, tn10, tn11, tn12]
  refine ⟨fun _ => ?_, fun c => absurd c (lt_out (n := 4) rfl)⟩
  refine zinv 10 (fun n Z M => ∃ I' : zI, Z = [some (.inr (.inr (12, 0))), some (.inl (nI n))] ∧ M = (I', L, P) ∧ frU I I' ∧ cpd I I' 76 6 6 ∧ cpd I I' 77 6 6 ∧ cpd I I' 78 4 4 ∧ cpd I I' 79 10 n ∧ cpd I I' 80 10 n ∧ cpd I I' 81 10 n ∧ cpd I I' 82 10 n ∧ cpd (nbI I) I' 83 10 n ∧ cpd I I' 84 10 n) ?_ ?_ ⟨I4, rfl, rfl, hI4, h76, h77, h78, fun c hc => absurd hc (by omega), fun c hc => absurd hc (by omega), fun c hc => absurd hc (by omega), fun c hc => absurd hc (by omega), fun c hc => absurd hc (by omega), fun c hc => absurd hc (by omega)⟩
  · rintro n Z M hn ⟨I', rfl, rfl, hI, g1, g2, g3, h1, h2, h3, h4, h5, h6⟩ self hself
    have lo : ∀ k, k = 79 ∨ k = 80 ∨ k = 81 ∨ k = 82 ∨ k = 83 ∨ k = 84 → ¬ ((0 : Nat) = 0 ∧ upH k n) := fun k hk e => by rcases e.2 with e | e | e | e | e <;> omega
    have up : ∀ k, k = 79 ∨ k = 80 ∨ k = 81 ∨ k = 82 ∨ k = 83 ∨ k = 84 → upH k (10 + n) := fun k hk => Or.inr (Or.inr (Or.inl ⟨hk, by omega⟩))
    -- one after the other
    obtain ⟨J1, e1⟩ : ∃ J, J = (zsI (I', L, P) 79 0 (10 + n) (I 79 0 n)).1 := ⟨_, rfl⟩
    have f1 : frU I J1 := by rw [e1]; exact frU_set hI (up 79 (by simp))
    obtain ⟨J2, e2⟩ : ∃ J, J = (zsI (J1, L, P) 80 0 (10 + n) (I 80 0 n)).1 := ⟨_, rfl⟩
    have f2 : frU I J2 := by rw [e2]; exact frU_set f1 (up 80 (by simp))
    obtain ⟨J3, e3⟩ : ∃ J, J = (zsI (J2, L, P) 81 0 (10 + n) (I 81 0 n)).1 := ⟨_, rfl⟩
    have f3 : frU I J3 := by rw [e3]; exact frU_set f2 (up 81 (by simp))
    obtain ⟨J4, e4⟩ : ∃ J, J = (zsI (J3, L, P) 82 0 (10 + n) (I 82 0 n)).1 := ⟨_, rfl⟩
    have f4 : frU I J4 := by rw [e4]; exact frU_set f3 (up 82 (by simp))
    obtain ⟨J5, e5⟩ : ∃ J, J = (zsI (J4, L, P) 83 0 (10 + n) (vp_nar .boolean (I 83 0 n))).1 := ⟨_, rfl⟩
    have f5 : frU I J5 := by rw [e5]; exact frU_set f4 (up 83 (by simp))
    obtain ⟨J6, e6⟩ : ∃ J, J = (zsI (J5, L, P) 84 0 (10 + n) (I 84 0 n)).1 := ⟨_, rfl⟩
    have f6 : frU I J6 := by rw [e6]; exact frU_set f5 (up 84 (by simp))
    have t1 : (J1, L, P) = zsI (I', L, P) 79 0 (10 + n) (I 79 0 n) := by rw [e1]; rfl
    have t2 : (J2, L, P) = zsI (J1, L, P) 80 0 (10 + n) (I 80 0 n) := by rw [e2]; rfl
    have t3 : (J3, L, P) = zsI (J2, L, P) 81 0 (10 + n) (I 81 0 n) := by rw [e3]; rfl
    have t4 : (J4, L, P) = zsI (J3, L, P) 82 0 (10 + n) (I 82 0 n) := by rw [e4]; rfl
    have t5 : (J5, L, P) = zsI (J4, L, P) 83 0 (10 + n) (vp_nar .boolean (I 83 0 n)) := by rw [e5]; rfl
    have t6 : (J6, L, P) = zsI (J5, L, P) 84 0 (10 + n) (I 84 0 n) := by rw [e6]; rfl
    dsimp only [x_int, x_lng, x_ild, x_lld, x_ald, x_ist, x_ast, x_lst, x_inc, x_ii, x_id, x_i, x_ll, x_ld, x_l, x_cmp, x_i2l, x_l2i, x_if, x_ic, x_dup, x_pop, x_dup2, x_gI, x_gL, x_gR, x_g1, x_g0, x_gP, x_pI, x_pZ, x_pL, x_pP, x_al, x_as, x_all, x_asl, x_alr, x_len, x_cpy, x_m2, x_m1, x_m2l, x_m1l, x_call, x_cv, x_ri, x_rz, x_rl, x_rv, zg, zset, zbef, zlong, zcat, cond_true, cond_false, List.take, List.drop, rv1, rv2, rv3, rv4, rv5, rv6, rv7, sm0, sm1, bl0, bl1, bl2, bl3, bl4, bl5, bl6, bl7, bl8, List.nil_append, List.cons_append, List.length_cons, List.length_nil, Nat.reduceBEq, Nat.reduceAdd, Nat.reduceSub, ta, tb, tn0, tn1, tn2, tn3, tn4, tn5, tn6, tn7, tn8, tn9, tn10, tn11, tn12, zk_79, zl_79, zk_80, zl_80, zk_81, zl_81, zk_82, zl_82, zk_83, zl_83, zk_84, zl_84]
    rw [o10, n_cl (n := n) (by omega), n_cl (n := 10 + n) (by omega), n_succ, hI 79 0 n (lo 79 (by simp)), ← t1]
    dsimp only
    rw [f1 80 0 n (lo 80 (by simp)), ← t2]
    dsimp only
    rw [f2 81 0 n (lo 81 (by simp)), ← t3]
    dsimp only
    rw [f3 82 0 n (lo 82 (by simp)), ← t4]
    dsimp only
    rw [f4 83 0 n (lo 83 (by simp)), ← t5]
    dsimp only
    rw [f5 84 0 n (lo 84 (by simp)), ← t6]
    have za : zin (nI n) 20 := n_zin (by omega) (by decide)
    have zc : zin (nI (10 + n)) 20 := n_zin (by omega) (by decide)
    refine ⟨fun c => absurd c (lt_go (n := 10) rfl (by omega) hn), fun _ => ⟨za, zc, za, zc, za, zc, za, zc, za, zc, za, zc, ?_⟩⟩
    refine hself _ _ ⟨J6, rfl, rfl, f6, ?_, ?_, ?_, ?_, ?_, ?_, ?_, ?_, ?_⟩
    · rw [e6]; refine cpd_ne ?_ (by decide); rw [e5]; refine cpd_ne ?_ (by decide); rw [e4]; refine cpd_ne ?_ (by decide); rw [e3]; refine cpd_ne ?_ (by decide); rw [e2]; refine cpd_ne ?_ (by decide); rw [e1]; exact cpd_ne g1 (by decide)
    · rw [e6]; refine cpd_ne ?_ (by decide); rw [e5]; refine cpd_ne ?_ (by decide); rw [e4]; refine cpd_ne ?_ (by decide); rw [e3]; refine cpd_ne ?_ (by decide); rw [e2]; refine cpd_ne ?_ (by decide); rw [e1]; exact cpd_ne g2 (by decide)
    · rw [e6]; refine cpd_ne ?_ (by decide); rw [e5]; refine cpd_ne ?_ (by decide); rw [e4]; refine cpd_ne ?_ (by decide); rw [e3]; refine cpd_ne ?_ (by decide); rw [e2]; refine cpd_ne ?_ (by decide); rw [e1]; exact cpd_ne g3 (by decide)
    · rw [e6]; refine cpd_ne ?_ (by decide); rw [e5]; refine cpd_ne ?_ (by decide); rw [e4]; refine cpd_ne ?_ (by decide); rw [e3]; refine cpd_ne ?_ (by decide); rw [e2]; refine cpd_ne ?_ (by decide); rw [e1]; exact cpd_set h1 rfl
    · rw [e6]; refine cpd_ne ?_ (by decide); rw [e5]; refine cpd_ne ?_ (by decide); rw [e4]; refine cpd_ne ?_ (by decide); rw [e3]; refine cpd_ne ?_ (by decide); rw [e2]; refine cpd_set ?_ rfl; rw [e1]; exact cpd_ne h2 (by decide)
    · rw [e6]; refine cpd_ne ?_ (by decide); rw [e5]; refine cpd_ne ?_ (by decide); rw [e4]; refine cpd_ne ?_ (by decide); rw [e3]; refine cpd_set ?_ rfl; rw [e2]; refine cpd_ne ?_ (by decide); rw [e1]; exact cpd_ne h3 (by decide)
    · rw [e6]; refine cpd_ne ?_ (by decide); rw [e5]; refine cpd_ne ?_ (by decide); rw [e4]; refine cpd_set ?_ rfl; rw [e3]; refine cpd_ne ?_ (by decide); rw [e2]; refine cpd_ne ?_ (by decide); rw [e1]; exact cpd_ne h4 (by decide)
    · rw [e6]; refine cpd_ne ?_ (by decide); rw [e5]; refine cpd_set ?_ rfl; rw [e4]; refine cpd_ne ?_ (by decide); rw [e3]; refine cpd_ne ?_ (by decide); rw [e2]; refine cpd_ne ?_ (by decide); rw [e1]; exact cpd_ne h5 (by decide)
    · rw [e6]; refine cpd_set ?_ rfl; rw [e5]; refine cpd_ne ?_ (by decide); rw [e4]; refine cpd_ne ?_ (by decide); rw [e3]; refine cpd_ne ?_ (by decide); rw [e2]; refine cpd_ne ?_ (by decide); rw [e1]; exact cpd_ne h6 (by decide)
  rintro Z M ⟨I10, rfl, rfl, hI10, g1, g2, g3, g4, g5, g6, g7, g8, g9⟩ self
  dsimp only [x_int, x_lng, x_ild, x_lld, x_ald, x_ist, x_ast, x_lst, x_inc, x_ii, x_id, x_i, x_ll, x_ld, x_l, x_cmp, x_i2l, x_l2i, x_if, x_ic, x_dup, x_pop, x_dup2, x_gI, x_gL, x_gR, x_g1, x_g0, x_gP, x_pI, x_pZ, x_pL, x_pP, x_al, x_as, x_all, x_asl, x_alr, x_len, x_cpy, x_m2, x_m1, x_m2l, x_m1l, x_call, x_cv, x_ri, x_rz, x_rl, x_rv, zg, zset, zbef, zlong, zcat, cond_true, cond_false, List.take, List.drop, rv1, rv2, rv3, rv4, rv5, rv6, rv7, sm0, sm1, bl0, bl1, bl2, bl3, bl4, bl5, bl6, bl7, bl8, List.nil_append, List.cons_append, List.length_cons, List.length_nil, Nat.reduceBEq, Nat.reduceAdd, Nat.reduceSub, ta, tb, tn0, tn1, tn2, tn3, tn4, tn5, tn6, tn7, tn8, tn9, tn10, tn11, tn12]
  refine ⟨fun _ => ?_, fun c => absurd c (lt_out (n := 10) rfl)⟩
  refine zinv 60 (fun n Z M => ∃ I' : zI, Z = [some (.inr (.inr (12, 0))), some (.inl (nI n))] ∧ M = (I', L, P) ∧ frU I I' ∧ cpd I I' 76 6 6 ∧ cpd I I' 77 6 6 ∧ cpd I I' 78 4 4 ∧ cpd I I' 79 10 10 ∧ cpd I I' 80 10 10 ∧ cpd I I' 81 10 10 ∧ cpd I I' 82 10 10 ∧ cpd (nbI I) I' 83 10 10 ∧ cpd I I' 84 10 10 ∧ cpd I I' 85 60 n) ?_ ?_ ⟨I10, rfl, rfl, hI10, g1, g2, g3, g4, g5, g6, g7, g8, g9, fun c hc => absurd hc (by omega)⟩
  · rintro n Z M hn ⟨I', rfl, rfl, hI, q1, q2, q3, q4, q5, q6, q7, q8, q9, q10⟩ self hself
    have r1 : I' 85 0 n = I 85 0 n := hI 85 0 n (fun e => by rcases e.2 with e | e | e | e | e <;> omega)
    dsimp only [x_int, x_lng, x_ild, x_lld, x_ald, x_ist, x_ast, x_lst, x_inc, x_ii, x_id, x_i, x_ll, x_ld, x_l, x_cmp, x_i2l, x_l2i, x_if, x_ic, x_dup, x_pop, x_dup2, x_gI, x_gL, x_gR, x_g1, x_g0, x_gP, x_pI, x_pZ, x_pL, x_pP, x_al, x_as, x_all, x_asl, x_alr, x_len, x_cpy, x_m2, x_m1, x_m2l, x_m1l, x_call, x_cv, x_ri, x_rz, x_rl, x_rv, zg, zset, zbef, zlong, zcat, cond_true, cond_false, List.take, List.drop, rv1, rv2, rv3, rv4, rv5, rv6, rv7, sm0, sm1, bl0, bl1, bl2, bl3, bl4, bl5, bl6, bl7, bl8, List.nil_append, List.cons_append, List.length_cons, List.length_nil, Nat.reduceBEq, Nat.reduceAdd, Nat.reduceSub, ta, tb, tn0, tn1, tn2, tn3, tn4, tn5, tn6, tn7, tn8, tn9, tn10, tn11, tn12, zk_85, zl_85]
    rw [o60, n_cl (n := n) (by omega), n_cl (n := 60 + n) (by omega), r1, n_succ]
    refine ⟨fun c => absurd c (lt_go (n := 60) rfl (by omega) hn), fun _ => ⟨n_zin (by omega) (by decide), n_zin (by omega) (by decide), ?_⟩⟩
    exact hself _ _ ⟨_, rfl, rfl, frU_set hI (Or.inr (Or.inr (Or.inr (Or.inl ⟨rfl, by omega⟩)))), cpd_ne q1 (by decide), cpd_ne q2 (by decide), cpd_ne q3 (by decide), cpd_ne q4 (by decide), cpd_ne q5 (by decide), cpd_ne q6 (by decide), cpd_ne q7 (by decide), cpd_ne q8 (by decide), cpd_ne q9 (by decide), cpd_set q10 rfl⟩
  rintro Z M ⟨I', rfl, rfl, hI, q1, q2, q3, q4, q5, q6, q7, q8, q9, q10⟩ self
  have r1 : I' 86 0 0 = I 86 0 0 := hI 86 0 0 (fun e => by rcases e.2 with e | e | e | e | e <;> omega)
  dsimp only [x_int, x_lng, x_ild, x_lld, x_ald, x_ist, x_ast, x_lst, x_inc, x_ii, x_id, x_i, x_ll, x_ld, x_l, x_cmp, x_i2l, x_l2i, x_if, x_ic, x_dup, x_pop, x_dup2, x_gI, x_gL, x_gR, x_g1, x_g0, x_gP, x_pI, x_pZ, x_pL, x_pP, x_al, x_as, x_all, x_asl, x_alr, x_len, x_cpy, x_m2, x_m1, x_m2l, x_m1l, x_call, x_cv, x_ri, x_rz, x_rl, x_rv, zg, zset, zbef, zlong, zcat, cond_true, cond_false, List.take, List.drop, rv1, rv2, rv3, rv4, rv5, rv6, rv7, sm0, sm1, bl0, bl1, bl2, bl3, bl4, bl5, bl6, bl7, bl8, List.nil_append, List.cons_append, List.length_cons, List.length_nil, Nat.reduceBEq, Nat.reduceAdd, Nat.reduceSub, ta, tb, tn0, tn1, tn2, tn3, tn4, tn5, tn6, tn7, tn8, tn9, tn10, tn11, tn12, zk_86, zl_86]
  rw [r1]
  refine ⟨fun _ => ⟨by unfold zin; decide, by unfold zin; decide, ?_⟩, fun c => absurd c (lt_out (n := 60) rfl)⟩
  have hf : frU I (zsI (I', L, P) 86 0 1 (I 86 0 0)).1 := frU_set hI (Or.inr (Or.inr (Or.inr (Or.inr ⟨rfl, rfl⟩))))
  have ev : (zsI (I', L, P) 86 0 1 (I 86 0 0)).1 86 0 1 = I 86 0 0 := by simp [zsI]
  refine p_plain0 ?_
  dsimp only [x_int, x_lng, x_ild, x_lld, x_ald, x_ist, x_ast, x_lst, x_inc, x_ii, x_id, x_i, x_ll, x_ld, x_l, x_cmp, x_i2l, x_l2i, x_if, x_ic, x_dup, x_pop, x_dup2, x_gI, x_gL, x_gR, x_g1, x_g0, x_gP, x_pI, x_pZ, x_pL, x_pP, x_al, x_as, x_all, x_asl, x_alr, x_len, x_cpy, x_m2, x_m1, x_m2l, x_m1l, x_call, x_cv, x_ri, x_rz, x_rl, x_rv, zg, zset, zbef, zlong, zcat, cond_true, cond_false, List.take, List.drop, rv1, rv2, rv3, rv4, rv5, rv6, rv7, sm0, sm1, bl0, bl1, bl2, bl3, bl4, bl5, bl6, bl7, bl8, List.nil_append, List.cons_append, List.length_cons, List.length_nil, Nat.reduceBEq, Nat.reduceAdd, Nat.reduceSub, ta, tb, tn0, tn1, tn2, tn3, tn4, tn5, tn6, tn7, tn8, tn9, tn10, tn11, tn12]
  exact hK _ ⟨hf, cpd_ne q1 (by decide), cpd_ne q2 (by decide), cpd_ne q3 (by decide), cpd_ne q4 (by decide), cpd_ne q5 (by decide), cpd_ne q6 (by decide), cpd_ne q7 (by decide), cpd_ne q8 (by decide), cpd_ne q9 (by decide), cpd_ne q10 (by decide), ev⟩
theorem p_layTried {K : zQ} {I : zI} {L : zJ} {P : zP} (hp : pln I) (hK : ∀ I' : zI, laid I I' → K [] (I', L, P)) : mX12_layTried K [.inr (.inr (12, 0))] (I, L, P) := p_layTried0 (fun I' hl => by
  have pl : ∀ s, I' 12 0 s = I 12 0 s := fun s => hl.1 12 0 s (fun e => by rcases e.2 with e | e | e | e | e <;> omega)
  obtain ⟨z1, z2, z3, z4, z5⟩ := hp
  rw [plnM_id ⟨(pl _).trans z1, (pl _).trans z2, (pl _).trans z3, (pl _).trans z4, (pl _).trans z5⟩]
  exact hK I' hl)
