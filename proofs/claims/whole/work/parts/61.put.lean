-- rows that are written from their beginnings on
def wr (I' : zI) (k o n : Nat) (f : Nat → Int32) : Prop := ∀ c, c < n → I' k 0 (o + c) = f c
theorem wr.z {I' : zI} {k o : Nat} {f : Nat → Int32} : wr I' k o 0 f := fun c hc => absurd hc (by omega)
theorem wr.set {M : zM} {k o n s : Nat} {f : Nat → Int32} {v : Int32} (h : wr M.1 k o n f) (hs : s = o + n) (hv : v = f n) : wr (zsI M k 0 s v).1 k o (n + 1) f := fun c hc => by
  show (if k = k ∧ 0 = 0 ∧ o + c = s then v else M.1 k 0 (o + c)) = _
  by_cases e : c = n
  · subst e; rw [if_pos ⟨rfl, rfl, hs.symm⟩]; exact hv
  · rw [if_neg (fun z => e (by omega))]; exact h c (by omega)
theorem wr.ne {M : zM} {k k2 o n s : Nat} {f : Nat → Int32} {v : Int32} (h : wr M.1 k o n f) (q : ¬ k = k2 ∨ s < o ∨ o + n ≤ s) : wr (zsI M k2 0 s v).1 k o n f := fun c hc => by
  show (if k = k2 ∧ 0 = 0 ∧ o + c = s then v else M.1 k 0 (o + c)) = _
  rw [if_neg (fun z => by rcases q with q | q | q; exact q z.1; omega; omega)]; exact h c hc
def ony (F : Nat → Nat → Prop) (I I' : zI) : Prop := ∀ a b c, ¬ (b = 0 ∧ F a c) → I' a b c = I a b c
theorem ony.rf {F : Nat → Nat → Prop} {I : zI} : ony F I I := fun _ _ _ _ => rfl
theorem ony.set {F : Nat → Nat → Prop} {I : zI} {M : zM} {k s : Nat} {v : Int32} (h : ony F I M.1) (hu : F k s) : ony F I (zsI M k 0 s v).1 := fun a i c q => by
  show (if a = k ∧ i = 0 ∧ c = s then v else M.1 a i c) = _
  rw [if_neg (fun e => q ⟨e.2.1, by rw [e.1, e.2.2]; exact hu⟩)]
  exact h a i c q
theorem ony.lo {F : Nat → Nat → Prop} {I I' : zI} (h : ony F I I') {a c : Nat} (q : ¬ F a c) : I' a 0 c = I a 0 c := h a 0 c (fun e => q e.2)
theorem ony.tr {F : Nat → Nat → Prop} {I I1 I2 : zI} (h : ony F I I1) (h2 : ony F I1 I2) : ony F I I2 := fun a b c q => (h2 a b c q).trans (h a b c q)
theorem ony.mono {F G : Nat → Nat → Prop} {I I1 : zI} (h : ony F I I1) (hg : ∀ a c, F a c → G a c) : ony G I I1 := fun a b c q => h a b c (fun e => q ⟨e.1, hg a c e.2⟩)
theorem o2 (o n : Nat) : nI o + nI n = nI (o + n) := n_add o n
theorem o3_6 (o n : Nat) : nI o + 6 + nI n = nI (o + 6 + n) := by rw [show (6 : Int32) = nI 6 from rfl, n_add, n_add]
theorem o3_16 (o n : Nat) : nI o + 16 + nI n = nI (o + 16 + n) := by rw [show (16 : Int32) = nI 16 from rfl, n_add, n_add]
theorem o3_26 (o n : Nat) : nI o + 26 + nI n = nI (o + 26 + n) := by rw [show (26 : Int32) = nI 26 from rfl, n_add, n_add]
theorem o3_36 (o n : Nat) : nI o + 36 + nI n = nI (o + 36 + n) := by rw [show (36 : Int32) = nI 36 from rfl, n_add, n_add]
set_option maxHeartbeats 2000000 in
theorem p_put {K : zQ} {I : zI} {L : zJ} {P : zP} {ka o : Nat} (hk9 : ka = 91 ∨ ka = 92) (hka : (zsrt ka == 1 && zaux ka == 0) = true) (hl : o + 40 ≤ zlen ka) (hl2 : zlen ka < 2147483648)
    (hK : ∀ I' : zI, ony (fun a c => a = ka ∧ o ≤ c ∧ c < o + 40) I I' → wr I' ka o 6 (I 76 0) → wr I' ka (o + 6) 10 (I 79 0) → wr I' ka (o + 16) 10 (I 80 0) → wr I' ka (o + 26) 10 (fun c => if I 83 0 c = 0 then 0 else 1) → wr I' ka (o + 36) 4 (I 78 0) → K [] (I', L, P)) : mX12_put K [refR, .inr (.inr (ka, 0)), .inl (nI o)] (I, L, P) := by
  show bX12_put_2 K [some refR, some (.inr (.inr (ka, 0))), some (.inl (nI o)), some (.inl 0)] [] (I, L, P)
  refine zinv 6 (fun n Z M => ∃ I' : zI, Z = [some refR, some (.inr (.inr (ka, 0))), some (.inl (nI o)), some (.inl (nI n))] ∧ M = (I', L, P) ∧ ony (fun a c => a = ka ∧ o ≤ c ∧ c < o + 40) I I' ∧ wr I' ka o n (I 76 0)) ?_ ?_ ⟨I, rfl, rfl, ony.rf, wr.z⟩
  · rintro n Z M hn ⟨I', rfl, rfl, hI, h1⟩ self hself
    dsimp only [x_int, x_lng, x_ild, x_lld, x_ald, x_ist, x_ast, x_lst, x_inc, x_ii, x_id, x_i, x_ll, x_ld, x_l, x_cmp, x_i2l, x_l2i, x_if, x_ic, x_dup, x_pop, x_dup2, x_gI, x_gL, x_gR, x_g1, x_g0, x_gP, x_pI, x_pZ, x_pL, x_pP, x_al, x_as, x_all, x_asl, x_alr, x_len, x_cpy, x_m2, x_m1, x_m2l, x_m1l, x_call, x_cv, x_ri, x_rz, x_rl, x_rv, zg, zset, zbef, zlong, zcat, cond_true, cond_false, List.take, List.drop, rv1, rv2, rv3, rv4, rv5, rv6, rv7, sm0, sm1, bl0, bl1, bl2, bl3, bl4, bl5, bl6, bl7, bl8, List.nil_append, List.cons_append, List.length_cons, List.length_nil, Nat.reduceBEq, Nat.reduceAdd, Nat.reduceSub, ta, tb, tn0, tn1, tn2, tn3, tn4, tn5, tn6, tn7, tn8, tn9, tn10, tn11, tn12, zk_76, zl_76]
    rw [hka, o2, n_cl (n := n) (by omega), n_cl (n := o + n) (by omega), n_succ n]
    exact ⟨fun c => absurd c (lt_go (n := 6) rfl (by omega) hn), fun _ => ⟨n_zin (by omega) (by decide), n_zin (by omega) (by omega), hself _ _ ⟨_, rfl, rfl, hI.set ⟨rfl, by omega, by omega⟩, h1.set rfl (hI.lo (by omega))⟩⟩⟩
  · rintro Z M ⟨I', rfl, rfl, hI, h1⟩ self
    dsimp only [x_int, x_lng, x_ild, x_lld, x_ald, x_ist, x_ast, x_lst, x_inc, x_ii, x_id, x_i, x_ll, x_ld, x_l, x_cmp, x_i2l, x_l2i, x_if, x_ic, x_dup, x_pop, x_dup2, x_gI, x_gL, x_gR, x_g1, x_g0, x_gP, x_pI, x_pZ, x_pL, x_pP, x_al, x_as, x_all, x_asl, x_alr, x_len, x_cpy, x_m2, x_m1, x_m2l, x_m1l, x_call, x_cv, x_ri, x_rz, x_rl, x_rv, zg, zset, zbef, zlong, zcat, cond_true, cond_false, List.take, List.drop, rv1, rv2, rv3, rv4, rv5, rv6, rv7, sm0, sm1, bl0, bl1, bl2, bl3, bl4, bl5, bl6, bl7, bl8, List.nil_append, List.cons_append, List.length_cons, List.length_nil, Nat.reduceBEq, Nat.reduceAdd, Nat.reduceSub, ta, tb, tn0, tn1, tn2, tn3, tn4, tn5, tn6, tn7, tn8, tn9, tn10, tn11, tn12]
    refine ⟨fun _ => ?_, fun c => absurd c (lt_out (n := 6) rfl)⟩
    refine zinv 10 (fun n Z M => ∃ I' : zI, Z = [some refR, some (.inr (.inr (ka, 0))), some (.inl (nI o)), some (.inl (nI n))] ∧ M = (I', L, P) ∧ ony (fun a c => a = ka ∧ o ≤ c ∧ c < o + 40) I I' ∧ wr I' ka o 6 (I 76 0) ∧ wr I' ka (o + 6) n (I 79 0) ∧ wr I' ka (o + 16) n (I 80 0) ∧ wr I' ka (o + 26) n (fun c => if I 83 0 c = 0 then 0 else 1)) ?_ ?_ ⟨I', rfl, rfl, hI, h1, wr.z, wr.z, wr.z⟩
    · rintro n Z M hn ⟨I', rfl, rfl, hI, h1, h2, h3, h4⟩ self hself
      have g : ∀ v : Int32, v = (if I 83 0 n = 0 then 0 else 1) → self [some refR, some (.inr (.inr (ka, 0))), some (.inl (nI o)), some (.inl (nI (n + 1)))] [] (zsI (zsI (zsI (I', L, P) ka 0 (o + 6 + n) (I' 79 0 n)) ka 0 (o + 16 + n) (I' 80 0 n)) ka 0 (o + 26 + n) v) := fun v hv => by
        refine hself _ _ ⟨_, rfl, rfl, ((hI.set ⟨rfl, by omega, by omega⟩).set ⟨rfl, by omega, by omega⟩).set ⟨rfl, by omega, by omega⟩, ?_, ?_, ?_, ?_⟩
        · exact wr.ne (wr.ne (wr.ne h1 (by omega)) (by omega)) (by omega)
        · exact wr.ne (wr.ne (wr.set h2 rfl (hI.lo (by omega))) (by omega)) (by omega)
        · exact wr.ne (wr.set (wr.ne h3 (by omega)) rfl (hI.lo (by omega))) (by omega)
        · exact wr.set (wr.ne (wr.ne h4 (by omega)) (by omega)) rfl hv
      have r1 : ∀ v, (zsI (I', L, P) ka 0 (o + 6 + n) v).1 80 0 n = I' 80 0 n := fun v => if_neg (fun e => by omega)
      have r2 : ∀ v v2, (zsI (zsI (I', L, P) ka 0 (o + 6 + n) v) ka 0 (o + 16 + n) v2).1 83 0 n = I 83 0 n := fun v v2 => by
        show (if 83 = ka ∧ 0 = 0 ∧ n = o + 16 + n then v2 else if 83 = ka ∧ 0 = 0 ∧ n = o + 6 + n then v else I' 83 0 n) = _
        rw [if_neg (fun e => by omega), if_neg (fun e => by omega)]; exact hI.lo (by omega)
      dsimp only [x_int, x_lng, x_ild, x_lld, x_ald, x_ist, x_ast, x_lst, x_inc, x_ii, x_id, x_i, x_ll, x_ld, x_l, x_cmp, x_i2l, x_l2i, x_if, x_ic, x_dup, x_pop, x_dup2, x_gI, x_gL, x_gR, x_g1, x_g0, x_gP, x_pI, x_pZ, x_pL, x_pP, x_al, x_as, x_all, x_asl, x_alr, x_len, x_cpy, x_m2, x_m1, x_m2l, x_m1l, x_call, x_cv, x_ri, x_rz, x_rl, x_rv, zg, zset, zbef, zlong, zcat, cond_true, cond_false, List.take, List.drop, rv1, rv2, rv3, rv4, rv5, rv6, rv7, sm0, sm1, bl0, bl1, bl2, bl3, bl4, bl5, bl6, bl7, bl8, List.nil_append, List.cons_append, List.length_cons, List.length_nil, Nat.reduceBEq, Nat.reduceAdd, Nat.reduceSub, ta, tb, tn0, tn1, tn2, tn3, tn4, tn5, tn6, tn7, tn8, tn9, tn10, tn11, tn12, zk_79, zl_79, zk_80, zl_80, zk_83, zl_83, bX12_put_82]
      rw [hka, o3_6, o3_16, o3_26, n_cl (n := n) (by omega), n_cl (n := o + 6 + n) (by omega), n_cl (n := o + 16 + n) (by omega), n_cl (n := o + 26 + n) (by omega), n_succ n, r1, r2]
      have zi : zin (nI n) 20 := n_zin (by omega) (by decide)
      refine ⟨fun c => absurd c (lt_go (n := 10) rfl (by omega) hn), fun _ => ⟨zi, n_zin (by omega) (by omega), zi, n_zin (by omega) (by omega), zi, fun c => ⟨n_zin (by omega) (by omega), g 0 (if_pos c).symm⟩, fun c => ⟨n_zin (by omega) (by omega), g 1 (if_neg c).symm⟩⟩⟩
    · rintro Z M ⟨I', rfl, rfl, hI, h1, h2, h3, h4⟩ self
      dsimp only [x_int, x_lng, x_ild, x_lld, x_ald, x_ist, x_ast, x_lst, x_inc, x_ii, x_id, x_i, x_ll, x_ld, x_l, x_cmp, x_i2l, x_l2i, x_if, x_ic, x_dup, x_pop, x_dup2, x_gI, x_gL, x_gR, x_g1, x_g0, x_gP, x_pI, x_pZ, x_pL, x_pP, x_al, x_as, x_all, x_asl, x_alr, x_len, x_cpy, x_m2, x_m1, x_m2l, x_m1l, x_call, x_cv, x_ri, x_rz, x_rl, x_rv, zg, zset, zbef, zlong, zcat, cond_true, cond_false, List.take, List.drop, rv1, rv2, rv3, rv4, rv5, rv6, rv7, sm0, sm1, bl0, bl1, bl2, bl3, bl4, bl5, bl6, bl7, bl8, List.nil_append, List.cons_append, List.length_cons, List.length_nil, Nat.reduceBEq, Nat.reduceAdd, Nat.reduceSub, ta, tb, tn0, tn1, tn2, tn3, tn4, tn5, tn6, tn7, tn8, tn9, tn10, tn11, tn12]
      refine ⟨fun _ => ?_, fun c => absurd c (lt_out (n := 10) rfl)⟩
      refine zinv 4 (fun n Z M => ∃ I' : zI, Z = [some refR, some (.inr (.inr (ka, 0))), some (.inl (nI o)), some (.inl (nI n))] ∧ M = (I', L, P) ∧ ony (fun a c => a = ka ∧ o ≤ c ∧ c < o + 40) I I' ∧ wr I' ka o 6 (I 76 0) ∧ wr I' ka (o + 6) 10 (I 79 0) ∧ wr I' ka (o + 16) 10 (I 80 0) ∧ wr I' ka (o + 26) 10 (fun c => if I 83 0 c = 0 then 0 else 1) ∧ wr I' ka (o + 36) n (I 78 0)) ?_ ?_ ⟨I', rfl, rfl, hI, h1, h2, h3, h4, wr.z⟩
      · rintro n Z M hn ⟨I', rfl, rfl, hI, h1, h2, h3, h4, h5⟩ self hself
        dsimp only [x_int, x_lng, x_ild, x_lld, x_ald, x_ist, x_ast, x_lst, x_inc, x_ii, x_id, x_i, x_ll, x_ld, x_l, x_cmp, x_i2l, x_l2i, x_if, x_ic, x_dup, x_pop, x_dup2, x_gI, x_gL, x_gR, x_g1, x_g0, x_gP, x_pI, x_pZ, x_pL, x_pP, x_al, x_as, x_all, x_asl, x_alr, x_len, x_cpy, x_m2, x_m1, x_m2l, x_m1l, x_call, x_cv, x_ri, x_rz, x_rl, x_rv, zg, zset, zbef, zlong, zcat, cond_true, cond_false, List.take, List.drop, rv1, rv2, rv3, rv4, rv5, rv6, rv7, sm0, sm1, bl0, bl1, bl2, bl3, bl4, bl5, bl6, bl7, bl8, List.nil_append, List.cons_append, List.length_cons, List.length_nil, Nat.reduceBEq, Nat.reduceAdd, Nat.reduceSub, ta, tb, tn0, tn1, tn2, tn3, tn4, tn5, tn6, tn7, tn8, tn9, tn10, tn11, tn12, zk_78, zl_78]
        rw [hka, o3_36, n_cl (n := n) (by omega), n_cl (n := o + 36 + n) (by omega), n_succ n]
        exact ⟨fun c => absurd c (lt_go (n := 4) rfl (by omega) hn), fun _ => ⟨n_zin (by omega) (by decide), n_zin (by omega) (by omega), hself _ _ ⟨_, rfl, rfl, hI.set ⟨rfl, by omega, by omega⟩, wr.ne h1 (by omega), wr.ne h2 (by omega), wr.ne h3 (by omega), wr.ne h4 (by omega), h5.set rfl (hI.lo (by omega))⟩⟩⟩
      · rintro Z M ⟨I', rfl, rfl, hI, h1, h2, h3, h4, h5⟩ self
        dsimp only [x_int, x_lng, x_ild, x_lld, x_ald, x_ist, x_ast, x_lst, x_inc, x_ii, x_id, x_i, x_ll, x_ld, x_l, x_cmp, x_i2l, x_l2i, x_if, x_ic, x_dup, x_pop, x_dup2, x_gI, x_gL, x_gR, x_g1, x_g0, x_gP, x_pI, x_pZ, x_pL, x_pP, x_al, x_as, x_all, x_asl, x_alr, x_len, x_cpy, x_m2, x_m1, x_m2l, x_m1l, x_call, x_cv, x_ri, x_rz, x_rl, x_rv, zg, zset, zbef, zlong, zcat, cond_true, cond_false, List.take, List.drop, rv1, rv2, rv3, rv4, rv5, rv6, rv7, sm0, sm1, bl0, bl1, bl2, bl3, bl4, bl5, bl6, bl7, bl8, List.nil_append, List.cons_append, List.length_cons, List.length_nil, Nat.reduceBEq, Nat.reduceAdd, Nat.reduceSub, ta, tb, tn0, tn1, tn2, tn3, tn4, tn5, tn6, tn7, tn8, tn9, tn10, tn11, tn12]
        exact ⟨fun _ => hK I' hI h1 h2 h3 h4 h5, fun c => absurd c (lt_out (n := 4) rfl)⟩
abbrev tkF (a c : Nat) : Prop := (a = 76 ∧ c < 6) ∨ ((a = 79 ∨ a = 80 ∨ a = 83) ∧ c < 10) ∨ (a = 78 ∧ c < 4)
theorem wr.get {I' : zI} {k n c : Nat} {f : Nat → Int32} (h : wr I' k 0 n f) (hc : c < n) : I' k 0 c = f c := by
  have := h c hc
  rw [Nat.zero_add] at this; exact this
set_option maxHeartbeats 2000000 in
theorem p_take {K : zQ} {I : zI} {L : zJ} {P : zP} {ka o : Nat} (hk9 : ka = 91 ∨ ka = 92) (hka : (zsrt ka == 1 && zaux ka == 0) = true) (hl : o + 40 ≤ zlen ka) (hl2 : zlen ka < 2147483648)
    (hK : ∀ I' : zI, ony tkF I I' → wr I' 76 0 6 (fun c => I ka 0 (o + c)) → wr I' 79 0 10 (fun c => I ka 0 (o + 6 + c)) → wr I' 80 0 10 (fun c => I ka 0 (o + 16 + c)) → wr I' 83 0 10 (fun c => if I ka 0 (o + 26 + c) = 1 then 1 else 0) → wr I' 78 0 4 (fun c => I ka 0 (o + 36 + c)) → K [] (I', L, P)) : mX12_take K [refR, .inr (.inr (ka, 0)), .inl (nI o)] (I, L, P) := by
  show bX12_take_2 K [some refR, some (.inr (.inr (ka, 0))), some (.inl (nI o)), some (.inl 0)] [] (I, L, P)
  refine zinv 6 (fun n Z M => ∃ I' : zI, Z = [some refR, some (.inr (.inr (ka, 0))), some (.inl (nI o)), some (.inl (nI n))] ∧ M = (I', L, P) ∧ ony tkF I I' ∧ wr I' 76 0 n (fun c => I ka 0 (o + c))) ?_ ?_ ⟨I, rfl, rfl, ony.rf, wr.z⟩
  · rintro n Z M hn ⟨I', rfl, rfl, hI, h1⟩ self hself
    dsimp only [x_int, x_lng, x_ild, x_lld, x_ald, x_ist, x_ast, x_lst, x_inc, x_ii, x_id, x_i, x_ll, x_ld, x_l, x_cmp, x_i2l, x_l2i, x_if, x_ic, x_dup, x_pop, x_dup2, x_gI, x_gL, x_gR, x_g1, x_g0, x_gP, x_pI, x_pZ, x_pL, x_pP, x_al, x_as, x_all, x_asl, x_alr, x_len, x_cpy, x_m2, x_m1, x_m2l, x_m1l, x_call, x_cv, x_ri, x_rz, x_rl, x_rv, zg, zset, zbef, zlong, zcat, cond_true, cond_false, List.take, List.drop, rv1, rv2, rv3, rv4, rv5, rv6, rv7, sm0, sm1, bl0, bl1, bl2, bl3, bl4, bl5, bl6, bl7, bl8, List.nil_append, List.cons_append, List.length_cons, List.length_nil, Nat.reduceBEq, Nat.reduceAdd, Nat.reduceSub, ta, tb, tn0, tn1, tn2, tn3, tn4, tn5, tn6, tn7, tn8, tn9, tn10, tn11, tn12, zk_76, zl_76]
    rw [hka, o2, n_cl (n := n) (by omega), n_cl (n := o + n) (by omega), n_succ n]
    exact ⟨fun c => absurd c (lt_go (n := 6) rfl (by omega) hn), fun _ => ⟨n_zin (by omega) (by omega), n_zin (by omega) (by decide), hself _ _ ⟨_, rfl, rfl, hI.set (by omega), h1.set (by omega) (hI.lo (by omega))⟩⟩⟩
  · rintro Z M ⟨I', rfl, rfl, hI, h1⟩ self
    dsimp only [x_int, x_lng, x_ild, x_lld, x_ald, x_ist, x_ast, x_lst, x_inc, x_ii, x_id, x_i, x_ll, x_ld, x_l, x_cmp, x_i2l, x_l2i, x_if, x_ic, x_dup, x_pop, x_dup2, x_gI, x_gL, x_gR, x_g1, x_g0, x_gP, x_pI, x_pZ, x_pL, x_pP, x_al, x_as, x_all, x_asl, x_alr, x_len, x_cpy, x_m2, x_m1, x_m2l, x_m1l, x_call, x_cv, x_ri, x_rz, x_rl, x_rv, zg, zset, zbef, zlong, zcat, cond_true, cond_false, List.take, List.drop, rv1, rv2, rv3, rv4, rv5, rv6, rv7, sm0, sm1, bl0, bl1, bl2, bl3, bl4, bl5, bl6, bl7, bl8, List.nil_append, List.cons_append, List.length_cons, List.length_nil, Nat.reduceBEq, Nat.reduceAdd, Nat.reduceSub, ta, tb, tn0, tn1, tn2, tn3, tn4, tn5, tn6, tn7, tn8, tn9, tn10, tn11, tn12]
    refine ⟨fun _ => ?_, fun c => absurd c (lt_out (n := 6) rfl)⟩
    refine zinv 10 (fun n Z M => ∃ I' : zI, Z = [some refR, some (.inr (.inr (ka, 0))), some (.inl (nI o)), some (.inl (nI n))] ∧ M = (I', L, P) ∧ ony tkF I I' ∧ wr I' 76 0 6 (fun c => I ka 0 (o + c)) ∧ wr I' 79 0 n (fun c => I ka 0 (o + 6 + c)) ∧ wr I' 80 0 n (fun c => I ka 0 (o + 16 + c)) ∧ wr I' 83 0 n (fun c => if I ka 0 (o + 26 + c) = 1 then 1 else 0)) ?_ ?_ ⟨I', rfl, rfl, hI, h1, wr.z, wr.z, wr.z⟩
    · rintro n Z M hn ⟨I', rfl, rfl, hI, h1, h2, h3, h4⟩ self hself
      have g : ∀ v : Int32, v = (if I ka 0 (o + 26 + n) = 1 then 1 else 0) → self [some refR, some (.inr (.inr (ka, 0))), some (.inl (nI o)), some (.inl (nI (n + 1)))] [] (zsI (zsI (zsI (I', L, P) 79 0 n (I ka 0 (o + 6 + n))) 80 0 n (I ka 0 (o + 16 + n))) 83 0 n v) := fun v hv => by
        refine hself _ _ ⟨_, rfl, rfl, ((hI.set (by omega)).set (by omega)).set (by omega), ?_, ?_, ?_, ?_⟩
        · exact wr.ne (wr.ne (wr.ne h1 (by omega)) (by omega)) (by omega)
        · exact wr.ne (wr.ne (wr.set h2 (by omega) rfl) (by omega)) (by omega)
        · exact wr.ne (wr.set (wr.ne h3 (by omega)) (by omega) rfl) (by omega)
        · exact wr.set (wr.ne (wr.ne h4 (by omega)) (by omega)) (by omega) hv
      have r0 : I' ka 0 (o + 6 + n) = I ka 0 (o + 6 + n) := hI.lo (by omega)
      have r1 : ∀ v, (zsI (I', L, P) 79 0 n v).1 ka 0 (o + 16 + n) = I ka 0 (o + 16 + n) := fun v => by
        show (if ka = 79 ∧ 0 = 0 ∧ o + 16 + n = n then v else I' ka 0 (o + 16 + n)) = _
        rw [if_neg (fun e => by omega)]; exact hI.lo (by omega)
      have r2 : ∀ v v2, (zsI (zsI (I', L, P) 79 0 n v) 80 0 n v2).1 ka 0 (o + 26 + n) = I ka 0 (o + 26 + n) := fun v v2 => by
        show (if ka = 80 ∧ 0 = 0 ∧ o + 26 + n = n then v2 else if ka = 79 ∧ 0 = 0 ∧ o + 26 + n = n then v else I' ka 0 (o + 26 + n)) = _
        rw [if_neg (fun e => by omega), if_neg (fun e => by omega)]; exact hI.lo (by omega)
      dsimp only [x_int, x_lng, x_ild, x_lld, x_ald, x_ist, x_ast, x_lst, x_inc, x_ii, x_id, x_i, x_ll, x_ld, x_l, x_cmp, x_i2l, x_l2i, x_if, x_ic, x_dup, x_pop, x_dup2, x_gI, x_gL, x_gR, x_g1, x_g0, x_gP, x_pI, x_pZ, x_pL, x_pP, x_al, x_as, x_all, x_asl, x_alr, x_len, x_cpy, x_m2, x_m1, x_m2l, x_m1l, x_call, x_cv, x_ri, x_rz, x_rl, x_rv, zg, zset, zbef, zlong, zcat, cond_true, cond_false, List.take, List.drop, rv1, rv2, rv3, rv4, rv5, rv6, rv7, sm0, sm1, bl0, bl1, bl2, bl3, bl4, bl5, bl6, bl7, bl8, List.nil_append, List.cons_append, List.length_cons, List.length_nil, Nat.reduceBEq, Nat.reduceAdd, Nat.reduceSub, ta, tb, tn0, tn1, tn2, tn3, tn4, tn5, tn6, tn7, tn8, tn9, tn10, tn11, tn12, zk_79, zl_79, zk_80, zl_80, zk_83, zl_83, bX12_take_83]
      rw [hka, o3_6, o3_16, o3_26, n_cl (n := n) (by omega), n_cl (n := o + 6 + n) (by omega), n_cl (n := o + 16 + n) (by omega), n_cl (n := o + 26 + n) (by omega), n_succ n, r0, r1, r2, nar0, nar1]
      have zi : zin (nI n) 20 := n_zin (by omega) (by decide)
      refine ⟨fun c => absurd c (lt_go (n := 10) rfl (by omega) hn), fun _ => ⟨n_zin (by omega) (by omega), zi, n_zin (by omega) (by omega), zi, n_zin (by omega) (by omega), fun c => ⟨zi, g 1 (if_pos c).symm⟩, fun c => ⟨zi, g 0 (if_neg c).symm⟩⟩⟩
    · rintro Z M ⟨I', rfl, rfl, hI, h1, h2, h3, h4⟩ self
      dsimp only [x_int, x_lng, x_ild, x_lld, x_ald, x_ist, x_ast, x_lst, x_inc, x_ii, x_id, x_i, x_ll, x_ld, x_l, x_cmp, x_i2l, x_l2i, x_if, x_ic, x_dup, x_pop, x_dup2, x_gI, x_gL, x_gR, x_g1, x_g0, x_gP, x_pI, x_pZ, x_pL, x_pP, x_al, x_as, x_all, x_asl, x_alr, x_len, x_cpy, x_m2, x_m1, x_m2l, x_m1l, x_call, x_cv, x_ri, x_rz, x_rl, x_rv, zg, zset, zbef, zlong, zcat, cond_true, cond_false, List.take, List.drop, rv1, rv2, rv3, rv4, rv5, rv6, rv7, sm0, sm1, bl0, bl1, bl2, bl3, bl4, bl5, bl6, bl7, bl8, List.nil_append, List.cons_append, List.length_cons, List.length_nil, Nat.reduceBEq, Nat.reduceAdd, Nat.reduceSub, ta, tb, tn0, tn1, tn2, tn3, tn4, tn5, tn6, tn7, tn8, tn9, tn10, tn11, tn12]
      refine ⟨fun _ => ?_, fun c => absurd c (lt_out (n := 10) rfl)⟩
      refine zinv 4 (fun n Z M => ∃ I' : zI, Z = [some refR, some (.inr (.inr (ka, 0))), some (.inl (nI o)), some (.inl (nI n))] ∧ M = (I', L, P) ∧ ony tkF I I' ∧ wr I' 76 0 6 (fun c => I ka 0 (o + c)) ∧ wr I' 79 0 10 (fun c => I ka 0 (o + 6 + c)) ∧ wr I' 80 0 10 (fun c => I ka 0 (o + 16 + c)) ∧ wr I' 83 0 10 (fun c => if I ka 0 (o + 26 + c) = 1 then 1 else 0) ∧ wr I' 78 0 n (fun c => I ka 0 (o + 36 + c))) ?_ ?_ ⟨I', rfl, rfl, hI, h1, h2, h3, h4, wr.z⟩
      · rintro n Z M hn ⟨I', rfl, rfl, hI, h1, h2, h3, h4, h5⟩ self hself
        dsimp only [x_int, x_lng, x_ild, x_lld, x_ald, x_ist, x_ast, x_lst, x_inc, x_ii, x_id, x_i, x_ll, x_ld, x_l, x_cmp, x_i2l, x_l2i, x_if, x_ic, x_dup, x_pop, x_dup2, x_gI, x_gL, x_gR, x_g1, x_g0, x_gP, x_pI, x_pZ, x_pL, x_pP, x_al, x_as, x_all, x_asl, x_alr, x_len, x_cpy, x_m2, x_m1, x_m2l, x_m1l, x_call, x_cv, x_ri, x_rz, x_rl, x_rv, zg, zset, zbef, zlong, zcat, cond_true, cond_false, List.take, List.drop, rv1, rv2, rv3, rv4, rv5, rv6, rv7, sm0, sm1, bl0, bl1, bl2, bl3, bl4, bl5, bl6, bl7, bl8, List.nil_append, List.cons_append, List.length_cons, List.length_nil, Nat.reduceBEq, Nat.reduceAdd, Nat.reduceSub, ta, tb, tn0, tn1, tn2, tn3, tn4, tn5, tn6, tn7, tn8, tn9, tn10, tn11, tn12, zk_78, zl_78]
        rw [hka, o3_36, n_cl (n := n) (by omega), n_cl (n := o + 36 + n) (by omega), n_succ n]
        exact ⟨fun c => absurd c (lt_go (n := 4) rfl (by omega) hn), fun _ => ⟨n_zin (by omega) (by omega), n_zin (by omega) (by decide), hself _ _ ⟨_, rfl, rfl, hI.set (by omega), wr.ne h1 (by omega), wr.ne h2 (by omega), wr.ne h3 (by omega), wr.ne h4 (by omega), h5.set (by omega) (hI.lo (by omega))⟩⟩⟩
      · rintro Z M ⟨I', rfl, rfl, hI, h1, h2, h3, h4, h5⟩ self
        dsimp only [x_int, x_lng, x_ild, x_lld, x_ald, x_ist, x_ast, x_lst, x_inc, x_ii, x_id, x_i, x_ll, x_ld, x_l, x_cmp, x_i2l, x_l2i, x_if, x_ic, x_dup, x_pop, x_dup2, x_gI, x_gL, x_gR, x_g1, x_g0, x_gP, x_pI, x_pZ, x_pL, x_pP, x_al, x_as, x_all, x_asl, x_alr, x_len, x_cpy, x_m2, x_m1, x_m2l, x_m1l, x_call, x_cv, x_ri, x_rz, x_rl, x_rv, zg, zset, zbef, zlong, zcat, cond_true, cond_false, List.take, List.drop, rv1, rv2, rv3, rv4, rv5, rv6, rv7, sm0, sm1, bl0, bl1, bl2, bl3, bl4, bl5, bl6, bl7, bl8, List.nil_append, List.cons_append, List.length_cons, List.length_nil, Nat.reduceBEq, Nat.reduceAdd, Nat.reduceSub, ta, tb, tn0, tn1, tn2, tn3, tn4, tn5, tn6, tn7, tn8, tn9, tn10, tn11, tn12]
        exact ⟨fun _ => hK I' hI h1 h2 h3 h4 h5, fun c => absurd c (lt_out (n := 4) rfl)⟩
