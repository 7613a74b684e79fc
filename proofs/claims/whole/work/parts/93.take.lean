-- THE CLASS READS
abbrev rdR : zV := .inr (.inr (5, 0))
def stC (B : Nat → Nat) (n m : Nat) (st : aR) (I : zI) : Prop := match st with
  | .inl i => I 5 0 8 = 0 ∧ I 5 0 9 = -1 ∧ i ≤ m ∧ cur B n i I
  | .inr (e, j) => I 5 0 8 = nI e ∧ (1 ≤ e ∧ e ≤ 4) ∧ I 5 0 9 = nI (stn B n j)
def frRd (I I' : zI) : Prop := ∀ a b c, ¬ (b = 0 ∧ ((a = 7 ∧ (c = 7 ∨ c = 9 ∨ c = 10 ∨ c = 11)) ∨ (a = 5 ∧ (c = 8 ∨ c = 9)))) → I' a b c = I a b c
theorem frRd.rf {I : zI} : frRd I I := fun _ _ _ _ => rfl
theorem frRd.tr {I I1 I2 : zI} (h : frRd I I1) (h2 : frRd I1 I2) : frRd I I2 := fun a b c q => (h2 a b c q).trans (h a b c q)
theorem TKm.q {B : Nat → Nat} {n m : Nat} {I I' : zI} (h : TKm B n m I) (e : ∀ a c, (a = 7 ∧ c = 8) ∨ a = 28 ∨ a = 29 ∨ a = 30 → I' a 0 c = I a 0 c) : TKm B n m I' := ⟨(e _ _ (Or.inl ⟨rfl, rfl⟩)).trans h.1, fun i hi => by rw [e 28 i (by omega), e 29 i (by omega), e 30 i (by omega)]; exact h.2 i hi⟩
theorem TKm.r {B : Nat → Nat} {n m : Nat} {I I' : zI} (h : TKm B n m I) (e : frRd I I') : TKm B n m I' := h.q (fun a c q => e a 0 c (by omega))
theorem cur.q {B : Nat → Nat} {n i : Nat} {I I' : zI} (h : cur B n i I) (e : ∀ c, I' 7 0 c = I 7 0 c) : cur B n i I' := by
  unfold cur at h ⊢
  rw [e, e, e, e]; exact h
theorem stC.q {B : Nat → Nat} {n m : Nat} {st : aR} {I I' : zI} (h : stC B n m st I) (e : ∀ c, I' 7 0 c = I 7 0 c) (e8 : I' 5 0 8 = I 5 0 8) (e9 : I' 5 0 9 = I 5 0 9) : stC B n m st I' := by
  cases st with
  | inl i => exact ⟨e8.trans h.1, e9.trans h.2.1, h.2.2.1, h.2.2.2.q e⟩
  | inr x => exact ⟨e8.trans h.1, h.2.1, e9.trans h.2.2⟩
theorem p_fail {K : zQ} {I : zI} {L : zJ} {P : zP} {B : Nat → Nat} {n m e : Nat} {st : aR} (he : 1 ≤ e ∧ e ≤ 4) (h : stC B n m st I) (hK : ∀ I' : zI, frRd I I' → stC B n m (flA e st) I' → K [] (I', L, P)) : mX5_fail K [rdR, .inl (nI e)] (I, L, P) := by
  show bX5_fail_0 K [some (.inr (.inr (5,0))), some (.inl (nI e))] [] (I, L, P)
  unfold bX5_fail_0
  dsimp only [x_int, x_lng, x_ild, x_lld, x_ald, x_ist, x_ast, x_lst, x_inc, x_ii, x_id, x_i, x_ll, x_ld, x_l, x_cmp, x_i2l, x_l2i, x_if, x_ic, x_dup, x_pop, x_dup2, x_gI, x_gL, x_gR, x_g1, x_g0, x_gP, x_pI, x_pZ, x_pL, x_pP, x_al, x_as, x_all, x_asl, x_alr, x_len, x_cpy, x_m2, x_m1, x_m2l, x_m1l, x_call, x_cv, x_ri, x_rz, x_rl, x_rv, zg, zset, zbef, zlong, zcat, cond_true, cond_false, List.take, List.drop, rv1, rv2, rv3, rv4, rv5, rv6, rv7, sm0, sm1, bl0, bl1, bl2, bl3, bl4, bl5, bl6, bl7, bl8, List.nil_append, List.cons_append, List.length_cons, List.length_nil, Nat.reduceBEq, Nat.reduceAdd, Nat.reduceSub, ta, tb, tn0, tn1, tn2, tn3, tn4, tn5, tn6, tn7, tn8, tn9, tn10, tn11, tn12, bX5_fail_23]
  cases st with
  | inl i =>
    obtain ⟨h1, h2, h3, h4⟩ := h
    rw [h1]
    refine ⟨fun _ => ?_, fun z => absurd rfl z⟩
    obtain ⟨J1, e1, x1, k1⟩ := zsI_ex I L P 5 0 8 (nI e)
    rw [e1]
    dsimp only
    rw [k1 7 0 _ (by omega), h4.2.2.1]
    obtain ⟨J2, e2, x2, k2⟩ := zsI_ex J1 L P 5 0 9 (nI (stn B n i))
    rw [e2]
    exact hK J2 (fun a b c q => (k2 a b c (by omega)).trans (k1 a b c (by omega))) ⟨(k2 _ _ _ (by decide)).trans x1, he, x2⟩
  | inr x =>
    obtain ⟨a, j⟩ := x
    obtain ⟨h1, h2, h3⟩ := h
    rw [h1]
    refine ⟨fun z => ?_, fun _ => hK I frRd.rf ⟨h1, h2, h3⟩⟩
    have z : nI a = nI 0 := z
    rw [n_eq (by omega) (by omega)] at z
    omega
theorem kd_le (B : Nat → Nat) (n i : Nat) : kd B n i ≤ 35 := tkn_k B n (ps B n i)
theorem p_tak {K : zQ} {I : zI} {L : zJ} {P : zP} {B : Nat → Nat} {n m k : Nat} {st : aR} (hE : endA B n m) (n7 : n ≤ 700) (hk : k < 34) (hm : TKm B n m I) (h : stC B n m st I) (hK : ∀ I' : zI, frRd I I' → stC B n m (tkA B n k st) I' → K [] (I', L, P)) : mX5_take K [rdR, .inl (nI k)] (I, L, P) := by
  obtain ⟨m1, m2, m3⟩ := hE
  show bX5_take_0 K [some (.inr (.inr (5,0))), some (.inl (nI k))] [] (I, L, P)
  unfold bX5_take_0
  dsimp only [x_int, x_lng, x_ild, x_lld, x_ald, x_ist, x_ast, x_lst, x_inc, x_ii, x_id, x_i, x_ll, x_ld, x_l, x_cmp, x_i2l, x_l2i, x_if, x_ic, x_dup, x_pop, x_dup2, x_gI, x_gL, x_gR, x_g1, x_g0, x_gP, x_pI, x_pZ, x_pL, x_pP, x_al, x_as, x_all, x_asl, x_alr, x_len, x_cpy, x_m2, x_m1, x_m2l, x_m1l, x_call, x_cv, x_ri, x_rz, x_rl, x_rv, zg, zset, zbef, zlong, zcat, cond_true, cond_false, List.take, List.drop, rv1, rv2, rv3, rv4, rv5, rv6, rv7, sm0, sm1, bl0, bl1, bl2, bl3, bl4, bl5, bl6, bl7, bl8, List.nil_append, List.cons_append, List.length_cons, List.length_nil, Nat.reduceBEq, Nat.reduceAdd, Nat.reduceSub, ta, tb, tn0, tn1, tn2, tn3, tn4, tn5, tn6, tn7, tn8, tn9, tn10, tn11, tn12]
  have skip : ∀ (I2 : zI) (x : Nat × Nat), stC B n m (.inr x) I2 → K [] (I2, L, P) → bX5_take_16 K [some rdR, some (.inl (nI k))] [] (I2, L, P) := fun I2 x q1 q2 => by
    obtain ⟨a, j⟩ := x
    unfold bX5_take_16
    dsimp only [x_int, x_lng, x_ild, x_lld, x_ald, x_ist, x_ast, x_lst, x_inc, x_ii, x_id, x_i, x_ll, x_ld, x_l, x_cmp, x_i2l, x_l2i, x_if, x_ic, x_dup, x_pop, x_dup2, x_gI, x_gL, x_gR, x_g1, x_g0, x_gP, x_pI, x_pZ, x_pL, x_pP, x_al, x_as, x_all, x_asl, x_alr, x_len, x_cpy, x_m2, x_m1, x_m2l, x_m1l, x_call, x_cv, x_ri, x_rz, x_rl, x_rv, zg, zset, zbef, zlong, zcat, cond_true, cond_false, List.take, List.drop, rv1, rv2, rv3, rv4, rv5, rv6, rv7, sm0, sm1, bl0, bl1, bl2, bl3, bl4, bl5, bl6, bl7, bl8, List.nil_append, List.cons_append, List.length_cons, List.length_nil, Nat.reduceBEq, Nat.reduceAdd, Nat.reduceSub, ta, tb, tn0, tn1, tn2, tn3, tn4, tn5, tn6, tn7, tn8, tn9, tn10, tn11, tn12, bX5_take_30]
    rw [q1.1]
    refine ⟨fun z => ?_, fun _ => q2⟩
    have := q1.2.1
    have z : nI a = nI 0 := z
    rw [n_eq (by omega) (by omega)] at z
    omega
  cases st with
  | inl i =>
    have kl := kd_le B n i
    obtain ⟨h1, h2, h3, h4⟩ := h
    rw [h4.2.1]
    refine ⟨fun z => ?_, fun z => p_fail (st := .inl i) (e := 1) (by omega) ⟨h1, h2, h3, h4⟩ (fun I2 f2 s2 => ?_)⟩
    · have z : nI (kd B n i) = nI k := z
      rw [n_eq (by omega) (by omega)] at z
      have tk : tkA B n k (.inl i) = .inl (i + 1) := if_pos z
      rw [tk] at hK
      have im : i < m := by
        by_cases w : i = m
        · rw [w, m2] at z; omega
        · omega
      unfold bX5_take_16
      dsimp only [x_int, x_lng, x_ild, x_lld, x_ald, x_ist, x_ast, x_lst, x_inc, x_ii, x_id, x_i, x_ll, x_ld, x_l, x_cmp, x_i2l, x_l2i, x_if, x_ic, x_dup, x_pop, x_dup2, x_gI, x_gL, x_gR, x_g1, x_g0, x_gP, x_pI, x_pZ, x_pL, x_pP, x_al, x_as, x_all, x_asl, x_alr, x_len, x_cpy, x_m2, x_m1, x_m2l, x_m1l, x_call, x_cv, x_ri, x_rz, x_rl, x_rv, zg, zset, zbef, zlong, zcat, cond_true, cond_false, List.take, List.drop, rv1, rv2, rv3, rv4, rv5, rv6, rv7, sm0, sm1, bl0, bl1, bl2, bl3, bl4, bl5, bl6, bl7, bl8, List.nil_append, List.cons_append, List.length_cons, List.length_nil, Nat.reduceBEq, Nat.reduceAdd, Nat.reduceSub, ta, tb, tn0, tn1, tn2, tn3, tn4, tn5, tn6, tn7, tn8, tn9, tn10, tn11, tn12, bX5_take_30]
      rw [h1]
      refine ⟨fun _ => p_advance (j := i + 1) hm (by omega) (by omega) (by rw [h4.1, n_succ]) (fun I2 f2 c2 => ?_), fun y => absurd rfl y⟩
      exact hK I2 (fun a b c q => f2 a b c (by omega)) ⟨(f2 _ _ _ (by decide)).trans h1, (f2 _ _ _ (by decide)).trans h2, by omega, c2⟩
    · have z : ¬ nI (kd B n i) = nI k := z
      rw [n_eq (by omega) (by omega)] at z
      have tk : tkA B n k (.inl i) = .inr (1, i) := if_neg z
      rw [tk] at hK
      exact skip I2 (1, i) s2 (hK I2 f2 s2)
  | inr x =>
    have tk : tkA B n k (.inr x) = .inr x := rfl
    rw [tk] at hK
    refine ⟨fun _ => skip I x h (hK I frRd.rf h), fun _ => p_fail (e := 1) (by omega) h (fun I2 f2 s2 => skip I2 x s2 (hK I2 f2 s2))⟩
theorem p_takeNumber {K : zQ} {I : zI} {L : zJ} {P : zP} {B : Nat → Nat} {n m lo hi : Nat} {st : aR} (hE : endA B n m) (n7 : n ≤ 700) (hm : TKm B n m I) (h : stC B n m st I) (hK : ∀ (I' : zI) (v : Int32), frRd I I' → stC B n m (nuA B n lo hi st) I' → (∀ i, st = .inl i → v = vl B n i) → K [.inl v] (I', L, P)) : mX5_takeNumber K [rdR, .inl (nI lo), .inl (nI hi)] (I, L, P) := by
  show bX5_takeNumber_0 K [some (.inr (.inr (5,0))), some (.inl (nI lo)), some (.inl (nI hi)), none] [] (I, L, P)
  unfold bX5_takeNumber_0
  dsimp only [x_int, x_lng, x_ild, x_lld, x_ald, x_ist, x_ast, x_lst, x_inc, x_ii, x_id, x_i, x_ll, x_ld, x_l, x_cmp, x_i2l, x_l2i, x_if, x_ic, x_dup, x_pop, x_dup2, x_gI, x_gL, x_gR, x_g1, x_g0, x_gP, x_pI, x_pZ, x_pL, x_pP, x_al, x_as, x_all, x_asl, x_alr, x_len, x_cpy, x_m2, x_m1, x_m2l, x_m1l, x_call, x_cv, x_ri, x_rz, x_rl, x_rv, zg, zset, zbef, zlong, zcat, cond_true, cond_false, List.take, List.drop, rv1, rv2, rv3, rv4, rv5, rv6, rv7, sm0, sm1, bl0, bl1, bl2, bl3, bl4, bl5, bl6, bl7, bl8, List.nil_append, List.cons_append, List.length_cons, List.length_nil, Nat.reduceBEq, Nat.reduceAdd, Nat.reduceSub, ta, tb, tn0, tn1, tn2, tn3, tn4, tn5, tn6, tn7, tn8, tn9, tn10, tn11, tn12]
  generalize ev : I 7 0 11 = v at *
  have hv : ∀ i, st = .inl i → v = vl B n i := fun i e => by subst e; exact ev.symm.trans h.2.2.2.2.2.2
  have e43 : ∀ (I2 : zI) (s2 : aR), frRd I I2 → stC B n m s2 I2 → tkA B n 20 s2 = nuA B n lo hi st → bX5_takeNumber_43 K [some rdR, some (.inl (nI lo)), some (.inl (nI hi)), some (.inl v)] [] (I2, L, P) := fun I2 s2 f2 c2 e2 => by
    unfold bX5_takeNumber_43
    dsimp only [x_int, x_lng, x_ild, x_lld, x_ald, x_ist, x_ast, x_lst, x_inc, x_ii, x_id, x_i, x_ll, x_ld, x_l, x_cmp, x_i2l, x_l2i, x_if, x_ic, x_dup, x_pop, x_dup2, x_gI, x_gL, x_gR, x_g1, x_g0, x_gP, x_pI, x_pZ, x_pL, x_pP, x_al, x_as, x_all, x_asl, x_alr, x_len, x_cpy, x_m2, x_m1, x_m2l, x_m1l, x_call, x_cv, x_ri, x_rz, x_rl, x_rv, zg, zset, zbef, zlong, zcat, cond_true, cond_false, List.take, List.drop, rv1, rv2, rv3, rv4, rv5, rv6, rv7, sm0, sm1, bl0, bl1, bl2, bl3, bl4, bl5, bl6, bl7, bl8, List.nil_append, List.cons_append, List.length_cons, List.length_nil, Nat.reduceBEq, Nat.reduceAdd, Nat.reduceSub, ta, tb, tn0, tn1, tn2, tn3, tn4, tn5, tn6, tn7, tn8, tn9, tn10, tn11, tn12]
    refine p_tak (k := 20) hE n7 (by decide) (hm.r f2) c2 (fun I3 f3 c3 => ?_)
    dsimp only [x_int, x_lng, x_ild, x_lld, x_ald, x_ist, x_ast, x_lst, x_inc, x_ii, x_id, x_i, x_ll, x_ld, x_l, x_cmp, x_i2l, x_l2i, x_if, x_ic, x_dup, x_pop, x_dup2, x_gI, x_gL, x_gR, x_g1, x_g0, x_gP, x_pI, x_pZ, x_pL, x_pP, x_al, x_as, x_all, x_asl, x_alr, x_len, x_cpy, x_m2, x_m1, x_m2l, x_m1l, x_call, x_cv, x_ri, x_rz, x_rl, x_rv, zg, zset, zbef, zlong, zcat, cond_true, cond_false, List.take, List.drop, rv1, rv2, rv3, rv4, rv5, rv6, rv7, sm0, sm1, bl0, bl1, bl2, bl3, bl4, bl5, bl6, bl7, bl8, List.nil_append, List.cons_append, List.length_cons, List.length_nil, Nat.reduceBEq, Nat.reduceAdd, Nat.reduceSub, ta, tb, tn0, tn1, tn2, tn3, tn4, tn5, tn6, tn7, tn8, tn9, tn10, tn11, tn12]
    rw [e2] at c3
    exact hK I3 v (f2.tr f3) c3 hv
  have e38 : tkA B n 20 (flA 2 st) = nuA B n lo hi st → bX5_takeNumber_38 K [some rdR, some (.inl (nI lo)), some (.inl (nI hi)), some (.inl v)] [] (I, L, P) := fun e2 => by
    unfold bX5_takeNumber_38
    dsimp only [x_int, x_lng, x_ild, x_lld, x_ald, x_ist, x_ast, x_lst, x_inc, x_ii, x_id, x_i, x_ll, x_ld, x_l, x_cmp, x_i2l, x_l2i, x_if, x_ic, x_dup, x_pop, x_dup2, x_gI, x_gL, x_gR, x_g1, x_g0, x_gP, x_pI, x_pZ, x_pL, x_pP, x_al, x_as, x_all, x_asl, x_alr, x_len, x_cpy, x_m2, x_m1, x_m2l, x_m1l, x_call, x_cv, x_ri, x_rz, x_rl, x_rv, zg, zset, zbef, zlong, zcat, cond_true, cond_false, List.take, List.drop, rv1, rv2, rv3, rv4, rv5, rv6, rv7, sm0, sm1, bl0, bl1, bl2, bl3, bl4, bl5, bl6, bl7, bl8, List.nil_append, List.cons_append, List.length_cons, List.length_nil, Nat.reduceBEq, Nat.reduceAdd, Nat.reduceSub, ta, tb, tn0, tn1, tn2, tn3, tn4, tn5, tn6, tn7, tn8, tn9, tn10, tn11, tn12]
    exact p_fail (e := 2) (by omega) h (fun I2 f2 c2 => e43 I2 _ f2 c2 e2)
  cases st with
  | inl i =>
    have kl := kd_le B n i
    have hk : I 7 0 9 = nI (kd B n i) := h.2.2.2.2.1
    have ve := hv i rfl
    rw [hk]
    have s1 : nuA B n lo hi (.inl i) = if kd B n i = 20 then (if nI lo ≤ vl B n i ∧ vl B n i ≤ nI hi then .inl (i + 1) else .inr (2, i)) else .inr (1, i) := rfl
    refine ⟨fun z => ?_, fun z => p_fail (e := 1) (by omega) h (fun I2 f2 c2 => e43 I2 _ f2 c2 ?_)⟩
    · have z : nI (kd B n i) = nI 20 := z
      rw [n_eq (by omega) (by omega)] at z
      rw [if_pos z] at s1
      refine ⟨fun y => e38 ?_, fun y => ⟨fun w => e43 I _ frRd.rf h ?_, fun w => e38 ?_⟩⟩
      · rw [ve] at y
        rw [s1, if_neg (fun u => Int32.not_lt.mpr u.1 y)]; rfl
      · rw [ve] at y w
        rw [s1, if_pos ⟨Int32.not_lt.mp y, w⟩]
        exact if_pos z
      · rw [ve] at w
        rw [s1, if_neg (fun u => w u.2)]; rfl
    · have z : ¬ nI (kd B n i) = nI 20 := z
      rw [n_eq (by omega) (by omega)] at z
      rw [s1, if_neg z]; rfl
  | inr x =>
    exact ⟨fun _ => ⟨fun _ => e38 rfl, fun _ => ⟨fun _ => e43 I _ frRd.rf h rfl, fun _ => e38 rfl⟩⟩, fun _ => p_fail (e := 1) (by omega) h (fun I2 f2 c2 => e43 I2 _ f2 c2 rfl)⟩
theorem frRd_CT {I I' : zI} {t : Nat} {T : aT} (h : frRd I I') (hT : CT I t T) : CT I' t T := hT.fr (fun a b c q => h a b c (fun e => by have := ctK8 (Or.inl q); omega))
theorem p_takeNew {K : zQ} {I : zI} {L : zJ} {P : zP} {B : Nat → Nat} {n m d : Nat} {st : aR} {T : aT} {hd : Bool} (hE : endA B n m) (n7 : n ≤ 700) (hP : P 5 0 3 = d) (hT : CT I d T) (hm : TKm B n m I) (h : stC B n m st I) (hK : ∀ (I' : zI) (v : Int32), frRd I I' → stC B n m (nnA B n (if hd = true then T.2.1 0 else T.2.1 4) (if hd = true then T.1 0 else T.1 1) st) I' → (∀ i, st = .inl i → v = vl B n i) → K [.inl v] (I', L, P)) : mX5_takeNewName K [rdR, .inl (bI hd)] (I, L, P) := by
  show bX5_takeNewName_0 K [some (.inr (.inr (5,0))), some (.inl (bI hd)), none] [] (I, L, P)
  unfold bX5_takeNewName_0
  dsimp only [x_int, x_lng, x_ild, x_lld, x_ald, x_ist, x_ast, x_lst, x_inc, x_ii, x_id, x_i, x_ll, x_ld, x_l, x_cmp, x_i2l, x_l2i, x_if, x_ic, x_dup, x_pop, x_dup2, x_gI, x_gL, x_gR, x_g1, x_g0, x_gP, x_pI, x_pZ, x_pL, x_pP, x_al, x_as, x_all, x_asl, x_alr, x_len, x_cpy, x_m2, x_m1, x_m2l, x_m1l, x_call, x_cv, x_ri, x_rz, x_rl, x_rv, zg, zset, zbef, zlong, zcat, cond_true, cond_false, List.take, List.drop, rv1, rv2, rv3, rv4, rv5, rv6, rv7, sm0, sm1, bl0, bl1, bl2, bl3, bl4, bl5, bl6, bl7, bl8, List.nil_append, List.cons_append, List.length_cons, List.length_nil, Nat.reduceBEq, Nat.reduceAdd, Nat.reduceSub, ta, tb, tn0, tn1, tn2, tn3, tn4, tn5, tn6, tn7, tn8, tn9, tn10, tn11, tn12]
  generalize ev : I 7 0 11 = v at *
  have hv : ∀ i, st = .inl i → v = vl B n i := fun i e => by subst e; exact ev.symm.trans h.2.2.2.2.2.2
  have fin : ∀ (I2 : zI) (s2 : aR), frRd I I2 → stC B n m s2 I2 → tkA B n 19 s2 = nnA B n (if hd = true then T.2.1 0 else T.2.1 4) (if hd = true then T.1 0 else T.1 1) st → bX5_takeNewName_60 K [some rdR, some (.inl (bI hd)), some (.inl v)] [] (I2, L, P) := fun I2 s2 f2 c2 e2 => by
    unfold bX5_takeNewName_60
    dsimp only [x_int, x_lng, x_ild, x_lld, x_ald, x_ist, x_ast, x_lst, x_inc, x_ii, x_id, x_i, x_ll, x_ld, x_l, x_cmp, x_i2l, x_l2i, x_if, x_ic, x_dup, x_pop, x_dup2, x_gI, x_gL, x_gR, x_g1, x_g0, x_gP, x_pI, x_pZ, x_pL, x_pP, x_al, x_as, x_all, x_asl, x_alr, x_len, x_cpy, x_m2, x_m1, x_m2l, x_m1l, x_call, x_cv, x_ri, x_rz, x_rl, x_rv, zg, zset, zbef, zlong, zcat, cond_true, cond_false, List.take, List.drop, rv1, rv2, rv3, rv4, rv5, rv6, rv7, sm0, sm1, bl0, bl1, bl2, bl3, bl4, bl5, bl6, bl7, bl8, List.nil_append, List.cons_append, List.length_cons, List.length_nil, Nat.reduceBEq, Nat.reduceAdd, Nat.reduceSub, ta, tb, tn0, tn1, tn2, tn3, tn4, tn5, tn6, tn7, tn8, tn9, tn10, tn11, tn12]
    refine p_tak (k := 19) hE n7 (by decide) (hm.r f2) c2 (fun I3 f3 c3 => ?_)
    dsimp only [x_int, x_lng, x_ild, x_lld, x_ald, x_ist, x_ast, x_lst, x_inc, x_ii, x_id, x_i, x_ll, x_ld, x_l, x_cmp, x_i2l, x_l2i, x_if, x_ic, x_dup, x_pop, x_dup2, x_gI, x_gL, x_gR, x_g1, x_g0, x_gP, x_pI, x_pZ, x_pL, x_pP, x_al, x_as, x_all, x_asl, x_alr, x_len, x_cpy, x_m2, x_m1, x_m2l, x_m1l, x_call, x_cv, x_ri, x_rz, x_rl, x_rv, zg, zset, zbef, zlong, zcat, cond_true, cond_false, List.take, List.drop, rv1, rv2, rv3, rv4, rv5, rv6, rv7, sm0, sm1, bl0, bl1, bl2, bl3, bl4, bl5, bl6, bl7, bl8, List.nil_append, List.cons_append, List.length_cons, List.length_nil, Nat.reduceBEq, Nat.reduceAdd, Nat.reduceSub, ta, tb, tn0, tn1, tn2, tn3, tn4, tn5, tn6, tn7, tn8, tn9, tn10, tn11, tn12]
    rw [e2] at c3
    exact hK I3 v (f2.tr f3) c3 hv
  have look : ∀ o : Option Nat, o = fnd (if hd = true then T.2.1 0 else T.2.1 4) v (if hd = true then T.1 0 else T.1 1) → (∀ b, o = some b → b < 2147483648) → (∀ i, st = .inl i → kd B n i = 19) → bX5_takeNewName_51 K [some rdR, some (.inl (bI hd)), some (.inl v)] [.inl (wbR o)] (I, L, P) := fun o ho hb hk => by
    unfold bX5_takeNewName_51
    dsimp only [x_int, x_lng, x_ild, x_lld, x_ald, x_ist, x_ast, x_lst, x_inc, x_ii, x_id, x_i, x_ll, x_ld, x_l, x_cmp, x_i2l, x_l2i, x_if, x_ic, x_dup, x_pop, x_dup2, x_gI, x_gL, x_gR, x_g1, x_g0, x_gP, x_pI, x_pZ, x_pL, x_pP, x_al, x_as, x_all, x_asl, x_alr, x_len, x_cpy, x_m2, x_m1, x_m2l, x_m1l, x_call, x_cv, x_ri, x_rz, x_rl, x_rv, zg, zset, zbef, zlong, zcat, cond_true, cond_false, List.take, List.drop, rv1, rv2, rv3, rv4, rv5, rv6, rv7, sm0, sm1, bl0, bl1, bl2, bl3, bl4, bl5, bl6, bl7, bl8, List.nil_append, List.cons_append, List.length_cons, List.length_nil, Nat.reduceBEq, Nat.reduceAdd, Nat.reduceSub, ta, tb, tn0, tn1, tn2, tn3, tn4, tn5, tn6, tn7, tn8, tn9, tn10, tn11, tn12]
    refine ⟨fun z => fin I _ frRd.rf h ?_, fun z => p_fail (e := 3) (by omega) h (fun I2 f2 c2 => fin I2 _ f2 c2 ?_)⟩
    · cases st with
      | inr x => rfl
      | inl i =>
        have k19 := hk i rfl
        have on : o = none := by
          cases o with
          | none => rfl
          | some b => exact absurd z (n_ne1 (hb b rfl))
        have e1 : nnA B n (if hd = true then T.2.1 0 else T.2.1 4) (if hd = true then T.1 0 else T.1 1) (.inl i) = if kd B n i = 19 then (match fnd (if hd = true then T.2.1 0 else T.2.1 4) (vl B n i) (if hd = true then T.1 0 else T.1 1) with
          | none => .inl (i + 1)
          | some _ => .inr (3, i)) else .inr (1, i) := rfl
        rw [e1, if_pos k19, ← hv i rfl, ← ho, on]
        exact if_pos k19
    · cases st with
      | inr x => rfl
      | inl i =>
        have k19 := hk i rfl
        cases eo : o with
        | none => rw [eo] at z; exact absurd rfl z
        | some b =>
          have e1 : nnA B n (if hd = true then T.2.1 0 else T.2.1 4) (if hd = true then T.1 0 else T.1 1) (.inl i) = if kd B n i = 19 then (match fnd (if hd = true then T.2.1 0 else T.2.1 4) (vl B n i) (if hd = true then T.1 0 else T.1 1) with
            | none => .inl (i + 1)
            | some _ => .inr (3, i)) else .inr (1, i) := rfl
          rw [e1, if_pos k19, ← hv i rfl, ← ho, eo]
          rfl
  have h6 := hT.h6
  have w4 := hT.w4
  have hunt : (∀ i, st = .inl i → kd B n i = 19) → ((bI hd = 0 → P 5 0 3 < zcnt 9 ∧ mX9_woodOf (fun r M' => bX5_takeNewName_51 K [some rdR, some (.inl (bI hd)), some (.inl v)] (r ++ []) M') [.inr (.inr (9, P 5 0 3)), .inl v] (I, L, P)) ∧ (¬ bI hd = 0 → P 5 0 3 < zcnt 9 ∧ mX9_handOf (fun r M' => bX5_takeNewName_51 K [some rdR, some (.inl (bI hd)), some (.inl v)] (r ++ []) M') [.inr (.inr (9, P 5 0 3)), .inl v] (I, L, P))) := fun hk => by
    rw [hP]
    cases hd with
    | true =>
      refine ⟨fun z => absurd z (by decide), fun _ => ⟨hT.1, p_handOf hT.1 hT.2.1.1 hT.h6 (fun i hi => (hT.hand hi).1) ?_⟩⟩
      exact look _ rfl (fun b e => by have := fnd_lt e; omega) hk
    | false =>
      refine ⟨fun _ => ⟨hT.1, p_woodOf hT.1 hT.2.1.2.1 hT.w4 (fun i hi => (hT.wood hi).1) ?_⟩, fun z => absurd rfl z⟩
      exact look _ rfl (fun b e => by have := fnd_lt e; omega) hk
  refine ⟨fun z => hunt (fun i e => ?_), fun z => p_fail (e := 1) (by omega) h (fun I2 f2 c2 => fin I2 _ f2 c2 ?_)⟩
  · subst e
    have kl := kd_le B n i
    rw [h.2.2.2.2.1] at z
    have z : nI (kd B n i) = nI 19 := z
    rw [n_eq (by omega) (by omega)] at z
    exact z
  · cases st with
    | inr x => rfl
    | inl i =>
      have kl := kd_le B n i
      rw [h.2.2.2.2.1] at z
      have z : ¬ nI (kd B n i) = nI 19 := z
      rw [n_eq (by omega) (by omega)] at z
      exact (if_neg z).symm
theorem p_takeTold {K : zQ} {I : zI} {L : zJ} {P : zP} {B : Nat → Nat} {n m d : Nat} {st : aR} {T : aT} {hd : Bool} (hE : endA B n m) (n7 : n ≤ 700) (hP : P 5 0 3 = d) (hT : CT I d T) (hm : TKm B n m I) (h : stC B n m st I) (hK : ∀ (I' : zI) (v : Int32), frRd I I' → stC B n m (tnA B n (if hd = true then T.2.1 0 else T.2.1 4) (if hd = true then T.1 0 else T.1 1) st) I' → (∀ i, st = .inl i → v = wbR (fnd (if hd = true then T.2.1 0 else T.2.1 4) (vl B n i) (if hd = true then T.1 0 else T.1 1))) → K [.inl v] (I', L, P)) : mX5_takeToldName K [rdR, .inl (bI hd)] (I, L, P) := by
  have h6 := hT.h6
  have w4 := hT.w4
  show bX5_takeToldName_0 K [some (.inr (.inr (5,0))), some (.inl (bI hd)), none] [] (I, L, P)
  unfold bX5_takeToldName_0
  dsimp only [x_int, x_lng, x_ild, x_lld, x_ald, x_ist, x_ast, x_lst, x_inc, x_ii, x_id, x_i, x_ll, x_ld, x_l, x_cmp, x_i2l, x_l2i, x_if, x_ic, x_dup, x_pop, x_dup2, x_gI, x_gL, x_gR, x_g1, x_g0, x_gP, x_pI, x_pZ, x_pL, x_pP, x_al, x_as, x_all, x_asl, x_alr, x_len, x_cpy, x_m2, x_m1, x_m2l, x_m1l, x_call, x_cv, x_ri, x_rz, x_rl, x_rv, zg, zset, zbef, zlong, zcat, cond_true, cond_false, List.take, List.drop, rv1, rv2, rv3, rv4, rv5, rv6, rv7, sm0, sm1, bl0, bl1, bl2, bl3, bl4, bl5, bl6, bl7, bl8, List.nil_append, List.cons_append, List.length_cons, List.length_nil, Nat.reduceBEq, Nat.reduceAdd, Nat.reduceSub, ta, tb, tn0, tn1, tn2, tn3, tn4, tn5, tn6, tn7, tn8, tn9, tn10, tn11, tn12]
  generalize ev : I 7 0 11 = v at *
  have hv : ∀ i, st = .inl i → v = vl B n i := fun i e => by subst e; exact ev.symm.trans h.2.2.2.2.2.2
  have look : ∀ o : Option Nat, o = fnd (if hd = true then T.2.1 0 else T.2.1 4) v (if hd = true then T.1 0 else T.1 1) → (∀ b, o = some b → b < 2147483648) → bX5_takeToldName_35 K [some rdR, some (.inl (bI hd)), none] [.inl (wbR o)] (I, L, P) := fun o ho hb => by
    have fin : ∀ (I2 : zI) (s2 : aR), frRd I I2 → stC B n m s2 I2 → tkA B n 19 s2 = tnA B n (if hd = true then T.2.1 0 else T.2.1 4) (if hd = true then T.1 0 else T.1 1) st → bX5_takeToldName_66 K [some rdR, some (.inl (bI hd)), some (.inl (wbR o))] [] (I2, L, P) := fun I2 s2 f2 c2 e2 => by
      unfold bX5_takeToldName_66
      dsimp only [x_int, x_lng, x_ild, x_lld, x_ald, x_ist, x_ast, x_lst, x_inc, x_ii, x_id, x_i, x_ll, x_ld, x_l, x_cmp, x_i2l, x_l2i, x_if, x_ic, x_dup, x_pop, x_dup2, x_gI, x_gL, x_gR, x_g1, x_g0, x_gP, x_pI, x_pZ, x_pL, x_pP, x_al, x_as, x_all, x_asl, x_alr, x_len, x_cpy, x_m2, x_m1, x_m2l, x_m1l, x_call, x_cv, x_ri, x_rz, x_rl, x_rv, zg, zset, zbef, zlong, zcat, cond_true, cond_false, List.take, List.drop, rv1, rv2, rv3, rv4, rv5, rv6, rv7, sm0, sm1, bl0, bl1, bl2, bl3, bl4, bl5, bl6, bl7, bl8, List.nil_append, List.cons_append, List.length_cons, List.length_nil, Nat.reduceBEq, Nat.reduceAdd, Nat.reduceSub, ta, tb, tn0, tn1, tn2, tn3, tn4, tn5, tn6, tn7, tn8, tn9, tn10, tn11, tn12]
      refine p_tak (k := 19) hE n7 (by decide) (hm.r f2) c2 (fun I3 f3 c3 => ?_)
      dsimp only [x_int, x_lng, x_ild, x_lld, x_ald, x_ist, x_ast, x_lst, x_inc, x_ii, x_id, x_i, x_ll, x_ld, x_l, x_cmp, x_i2l, x_l2i, x_if, x_ic, x_dup, x_pop, x_dup2, x_gI, x_gL, x_gR, x_g1, x_g0, x_gP, x_pI, x_pZ, x_pL, x_pP, x_al, x_as, x_all, x_asl, x_alr, x_len, x_cpy, x_m2, x_m1, x_m2l, x_m1l, x_call, x_cv, x_ri, x_rz, x_rl, x_rv, zg, zset, zbef, zlong, zcat, cond_true, cond_false, List.take, List.drop, rv1, rv2, rv3, rv4, rv5, rv6, rv7, sm0, sm1, bl0, bl1, bl2, bl3, bl4, bl5, bl6, bl7, bl8, List.nil_append, List.cons_append, List.length_cons, List.length_nil, Nat.reduceBEq, Nat.reduceAdd, Nat.reduceSub, ta, tb, tn0, tn1, tn2, tn3, tn4, tn5, tn6, tn7, tn8, tn9, tn10, tn11, tn12]
      rw [e2] at c3
      exact hK I3 _ (f2.tr f3) c3 (fun i e => by rw [ho, hv i e])
    unfold bX5_takeToldName_35
    dsimp only [x_int, x_lng, x_ild, x_lld, x_ald, x_ist, x_ast, x_lst, x_inc, x_ii, x_id, x_i, x_ll, x_ld, x_l, x_cmp, x_i2l, x_l2i, x_if, x_ic, x_dup, x_pop, x_dup2, x_gI, x_gL, x_gR, x_g1, x_g0, x_gP, x_pI, x_pZ, x_pL, x_pP, x_al, x_as, x_all, x_asl, x_alr, x_len, x_cpy, x_m2, x_m1, x_m2l, x_m1l, x_call, x_cv, x_ri, x_rz, x_rl, x_rv, zg, zset, zbef, zlong, zcat, cond_true, cond_false, List.take, List.drop, rv1, rv2, rv3, rv4, rv5, rv6, rv7, sm0, sm1, bl0, bl1, bl2, bl3, bl4, bl5, bl6, bl7, bl8, List.nil_append, List.cons_append, List.length_cons, List.length_nil, Nat.reduceBEq, Nat.reduceAdd, Nat.reduceSub, ta, tb, tn0, tn1, tn2, tn3, tn4, tn5, tn6, tn7, tn8, tn9, tn10, tn11, tn12]
    cases st with
    | inr x => exact ⟨fun _ => ⟨fun _ => p_fail (e := 4) (by omega) h (fun I2 f2 c2 => fin I2 _ f2 c2 rfl), fun _ => fin I _ frRd.rf h rfl⟩, fun _ => p_fail (e := 1) (by omega) h (fun I2 f2 c2 => fin I2 _ f2 c2 rfl)⟩
    | inl i =>
      have kl := kd_le B n i
      rw [h.2.2.2.2.1]
      have e1 : tnA B n (if hd = true then T.2.1 0 else T.2.1 4) (if hd = true then T.1 0 else T.1 1) (.inl i) = if kd B n i = 19 then (match fnd (if hd = true then T.2.1 0 else T.2.1 4) (vl B n i) (if hd = true then T.1 0 else T.1 1) with
        | none => .inr (4, i)
        | some _ => .inl (i + 1)) else .inr (1, i) := rfl
      rw [← hv i rfl, ← ho] at e1
      refine ⟨fun z => ?_, fun z => p_fail (e := 1) (by omega) h (fun I2 f2 c2 => fin I2 _ f2 c2 ?_)⟩
      · have z : nI (kd B n i) = nI 19 := z
        rw [n_eq (by omega) (by omega)] at z
        rw [if_pos z] at e1
        cases eo : o with
        | none =>
          rw [eo] at e1 fin
          exact ⟨fun _ => p_fail (e := 4) (by omega) h (fun I2 f2 c2 => fin I2 _ f2 c2 (by rw [e1]; rfl)), fun y => absurd rfl y⟩
        | some b =>
          rw [eo] at e1 fin
          exact ⟨fun y => absurd y (n_ne1 (hb b eo)), fun _ => fin I _ frRd.rf h (by rw [e1]; exact if_pos z)⟩
      · have z : ¬ nI (kd B n i) = nI 19 := z
        rw [n_eq (by omega) (by omega)] at z
        rw [e1, if_neg z]; rfl
  rw [hP]
  cases hd with
  | true =>
    refine ⟨fun z => absurd z (by decide), fun _ => ⟨hT.1, p_handOf hT.1 hT.2.1.1 hT.h6 (fun i hi => (hT.hand hi).1) ?_⟩⟩
    exact look _ rfl (fun b e => by have := fnd_lt e; omega)
  | false =>
    refine ⟨fun _ => ⟨hT.1, p_woodOf hT.1 hT.2.1.2.1 hT.w4 (fun i hi => (hT.wood hi).1) ?_⟩, fun z => absurd rfl z⟩
    exact look _ rfl (fun b e => by have := fnd_lt e; omega)
