-- what is heard, and whose it is
def iabs (x : Int32) : Int32 := if 0 ≤ x then x else 0 - x
def apn (d : Nat → Int32) : Nat → Int32
  | 0 => 0
  | n + 1 => apn d n + iabs (d n)
theorem apn_congr {d e : Nat → Int32} {n : Nat} (h : ∀ k, k < n → d k = e k) : apn d n = apn e n := by
  induction n with
  | zero => rfl
  | succ n ih =>
    show apn d n + _ = apn e n + _
    rw [ih (fun k hk => h k (by omega)), h n (by omega)]
theorem p_apartFrom {K : zQ} {I : zI} {L : zJ} {P : zP} {x ka i : Nat} (hka : (zsrt ka == 1 && zaux ka == 0) = true) (hl : zlen ka = 6) (hK : K [.inl (apn (fun k => I 14 x k - I ka i k) 6)] (I, L, P)) : mX1_apartFrom K [.inr (.inr (1, x)), .inr (.inr (ka, i))] (I, L, P) := by
  show bX1_apartFrom_4 K [some (.inr (.inr (1, x))), some (.inr (.inr (ka, i))), some (.inl 0), some (.inl 0)] [] (I, L, P)
  refine zfor 6 (fun n => [some (.inr (.inr (1, x))), some (.inr (.inr (ka, i))), some (.inl (apn (fun k => I 14 x k - I ka i k) n)), some (.inl (nI n))]) (fun _ => (I, L, P)) (fun n hn self hs => ?_) (fun self => ?_)
  · refine And.intro (fun c => absurd c (lt_go (n := 6) rfl (by omega) hn)) (fun _ => And.intro (n_zin hn (by decide)) ?_)
    dsimp only [x_int, x_lng, x_ild, x_lld, x_ald, x_ist, x_ast, x_lst, x_inc, x_ii, x_id, x_i, x_ll, x_ld, x_l, x_cmp, x_i2l, x_l2i, x_if, x_ic, x_dup, x_pop, x_dup2, x_gI, x_gL, x_gR, x_g1, x_g0, x_gP, x_pI, x_pZ, x_pL, x_pP, x_al, x_as, x_all, x_asl, x_alr, x_len, x_cpy, x_m2, x_m1, x_m2l, x_m1l, x_call, x_cv, x_ri, x_rz, x_rl, x_rv, zg, zset, zbef, zlong, zcat, cond_true, cond_false, List.take, List.drop, rv1, rv2, rv3, rv4, rv5, rv6, rv7, sm0, sm1, bl0, bl1, bl2, bl3, bl4, bl5, bl6, bl7, bl8, List.nil_append, List.cons_append, List.length_cons, List.length_nil, Nat.reduceBEq, Nat.reduceAdd, Nat.reduceSub, ta, tb, tn0, tn1, tn2, tn3, tn4, tn5, tn6, tn7, tn8, tn9, tn10, tn11, tn12]
    rw [hka, hl, n_cl (by omega)]
    refine And.intro (n_zin hn (by decide)) ?_
    rw [n_succ]
    exact hs
  · exact And.intro (fun _ => hK) (fun c => absurd c (lt_out (n := 6) rfl))
theorem p_digitsOf {K : zQ} {I : zI} {L : zJ} {P : zP} {ka i : Nat} (hka : (zsrt ka == 1 && zaux ka == 0) = true) (hl : zlen ka = 6) (hK : K [.inl (dgn (I ka i) 6)] (I, L, P)) : mX11_digitsOf K [.inr (.inr (ka, i))] (I, L, P) := by
  show bX11_digitsOf_4 K [some (.inr (.inr (ka, i))), some (.inl 0), some (.inl 0)] [] (I, L, P)
  refine zfor 6 (fun n => [some (.inr (.inr (ka, i))), some (.inl (dgn (I ka i) n)), some (.inl (nI n))]) (fun _ => (I, L, P)) (fun n hn self hs => ?_) (fun self => ?_)
  · refine And.intro (fun c => absurd c (lt_go (n := 6) rfl (by omega) hn)) (fun _ => ?_)
    dsimp only [x_int, x_lng, x_ild, x_lld, x_ald, x_ist, x_ast, x_lst, x_inc, x_ii, x_id, x_i, x_ll, x_ld, x_l, x_cmp, x_i2l, x_l2i, x_if, x_ic, x_dup, x_pop, x_dup2, x_gI, x_gL, x_gR, x_g1, x_g0, x_gP, x_pI, x_pZ, x_pL, x_pP, x_al, x_as, x_all, x_asl, x_alr, x_len, x_cpy, x_m2, x_m1, x_m2l, x_m1l, x_call, x_cv, x_ri, x_rz, x_rl, x_rv, zg, zset, zbef, zlong, zcat, cond_true, cond_false, List.take, List.drop, rv1, rv2, rv3, rv4, rv5, rv6, rv7, sm0, sm1, bl0, bl1, bl2, bl3, bl4, bl5, bl6, bl7, bl8, List.nil_append, List.cons_append, List.length_cons, List.length_nil, Nat.reduceBEq, Nat.reduceAdd, Nat.reduceSub, ta, tb, tn0, tn1, tn2, tn3, tn4, tn5, tn6, tn7, tn8, tn9, tn10, tn11, tn12]
    rw [hka, hl, n_cl (by omega), n_succ]
    exact And.intro (n_zin hn (by decide)) hs
  · exact And.intro (fun _ => hK) (fun c => absurd c (lt_out (n := 6) rfl))
def nx (n : Int32) : Int32 := (n * 1103515245 + 12345) &&& 2147483647
def dr1 (dr : Bool) (e n : Int32) : Int32 × Int32 :=
  if dr then (if e ≤ 0 then (n, if e < 100 then 0 else 1) else if e < 100 then (nx n, if e ≤ nx n / 65536 - nx n / 65536 / 100 * 100 then 0 else 1) else (n, if e < 100 then 0 else 1))
  else (n, if e < 50 then 0 else 1)
def nks (dr : Bool) (e : Nat → Int32) (n : Int32) : Nat → Int32
  | 0 => n
  | k + 1 => (dr1 dr (e k) (nks dr e n k)).1
def lgr (dr : Bool) (e : Nat → Int32) (n : Int32) (k : Nat) : Int32 := (dr1 dr (e k) (nks dr e n k)).2
theorem p_isAboveDrawn {K : zQ} {I : zI} {L : zJ} {P : zP} {j : Nat} {e : Int32} (hK : ∀ I' : zI, (∀ a b c, ¬ (a = 8 ∧ b = j ∧ c = 14) → I' a b c = I a b c) → I' 8 j 14 = (dr1 true e (I 8 j 14)).1 → K [.inl (dr1 true e (I 8 j 14)).2] (I', L, P)) : mX8_isAboveDrawn K [.inr (.inr (8, j)), .inl e] (I, L, P) := by
  unfold dr1 at hK
  rw [if_pos rfl] at hK
  refine And.intro (fun c => ?_) (fun c => ?_)
  · have hK := hK I (fun _ _ _ _ => rfl)
    rw [if_pos c] at hK
    have hK := hK rfl
    refine And.intro (fun d => ?_) (fun d => ?_)
    · exact And.intro (Or.inl rfl) (by have hK : K [.inl (if e < 100 then 0 else 1)] (I, L, P) := hK; rw [if_pos d] at hK; exact hK)
    · exact And.intro (Or.inr rfl) (by have hK : K [.inl (if e < 100 then 0 else 1)] (I, L, P) := hK; rw [if_neg d] at hK; exact hK)
  · refine And.intro (fun d => ?_) (fun d => ?_)
    · have hK := hK (zsI (I, L, P) 8 j 14 (nx (I 8 j 14))).1 (fun a b c q => by simp only [zsI, q, if_false])
      rw [if_neg c, if_pos d] at hK
      have e9 : (zsI (I, L, P) 8 j 14 (nx (I 8 j 14))).1 8 j 14 = nx (I 8 j 14) := by simp [zsI]
      have hK : K [.inl (if e ≤ nx (I 8 j 14) / 65536 - nx (I 8 j 14) / 65536 / 100 * 100 then 0 else 1)] (zsI (I, L, P) 8 j 14 (nx (I 8 j 14))) := hK e9
      refine And.intro (by decide) (And.intro (by decide) ?_)
      dsimp only [x_int, x_lng, x_ild, x_lld, x_ald, x_ist, x_ast, x_lst, x_inc, x_ii, x_id, x_i, x_ll, x_ld, x_l, x_cmp, x_i2l, x_l2i, x_if, x_ic, x_dup, x_pop, x_dup2, x_gI, x_gL, x_gR, x_g1, x_g0, x_gP, x_pI, x_pZ, x_pL, x_pP, x_al, x_as, x_all, x_asl, x_alr, x_len, x_cpy, x_m2, x_m1, x_m2l, x_m1l, x_call, x_cv, x_ri, x_rz, x_rl, x_rv, zg, zset, zbef, zlong, zcat, cond_true, cond_false, List.take, List.drop, rv1, rv2, rv3, rv4, rv5, rv6, rv7, sm0, sm1, bl0, bl1, bl2, bl3, bl4, bl5, bl6, bl7, bl8, List.nil_append, List.cons_append, List.length_cons, List.length_nil, Nat.reduceBEq, Nat.reduceAdd, Nat.reduceSub, ta, tb, tn0, tn1, tn2, tn3, tn4, tn5, tn6, tn7, tn8, tn9, tn10, tn11, tn12]
      have e8 : (zsI (I, L, P) 8 j 14 ((I 8 j 14 * 1103515245 + 12345) &&& 2147483647)).1 8 j 14 = nx (I 8 j 14) := e9
      rw [e8]
      refine And.intro (fun q => And.intro (Or.inl rfl) ?_) (fun q => And.intro (Or.inr rfl) ?_)
      · rw [if_pos q] at hK; exact hK
      · rw [if_neg q] at hK; exact hK
    · have hK := hK I (fun _ _ _ _ => rfl)
      rw [if_neg c, if_neg d] at hK
      have hK := hK rfl
      have hK : K [.inl (if e < 100 then 0 else 1)] (I, L, P) := hK
      rw [if_neg d] at hK
      exact And.intro (fun q => absurd q d) (fun _ => And.intro (Or.inr rfl) hK)

/-- the text's and the scene's own rows -/
def ctK (a : Nat) : Bool := a == 9 || (a == 1 || (a == 14 || (a == 10 || (a == 4 || (a == 2 || a == 16)))))
theorem CT.fr {M M' : zI} {t : Nat} {T : aT} (h : CT M t T) (e : ∀ a b c, ctK a = true → M' a b c = M a b c) : CT M' t T := by
  have e9 : ∀ b c, M' 9 b c = M 9 b c := fun b c => e 9 b c rfl
  have e1 : ∀ b c, M' 1 b c = M 1 b c := fun b c => e 1 b c rfl
  have e14 : ∀ b c, M' 14 b c = M 14 b c := fun b c => e 14 b c rfl
  have e10 : ∀ b c, M' 10 b c = M 10 b c := fun b c => e 10 b c rfl
  have e4 : ∀ b c, M' 4 b c = M 4 b c := fun b c => e 4 b c rfl
  have e2 : ∀ b c, M' 2 b c = M 2 b c := fun b c => e 2 b c rfl
  have e16 : ∀ b c, M' 16 b c = M 16 b c := fun b c => e 16 b c rfl
  unfold CT at h ⊢
  simp only [e9, e1, e14, e10, e4, e2, e16]
  exact h
def csK (a c : Nat) : Bool := (Nat.ble 31 a && Nat.ble a 40) || (a == 8 && (Nat.ble 13 c && Nat.ble c 17))
theorem CS.fr {M M' : zI} {j : Nat} {T : aT} {S : aS} (h : CS M j T S) (e : ∀ a c, csK a c = true → M' a j c = M a j c) : CS M' j T S := by
  have e31 : ∀ c, M' 31 j c = M 31 j c := fun c => e 31 c rfl
  have e32 : ∀ c, M' 32 j c = M 32 j c := fun c => e 32 c rfl
  have e33 : ∀ c, M' 33 j c = M 33 j c := fun c => e 33 c rfl
  have e34 : ∀ c, M' 34 j c = M 34 j c := fun c => e 34 c rfl
  have e35 : ∀ c, M' 35 j c = M 35 j c := fun c => e 35 c rfl
  have e36 : ∀ c, M' 36 j c = M 36 j c := fun c => e 36 c rfl
  have e37 : ∀ c, M' 37 j c = M 37 j c := fun c => e 37 c rfl
  have e38 : ∀ c, M' 38 j c = M 38 j c := fun c => e 38 c rfl
  have e39 : ∀ c, M' 39 j c = M 39 j c := fun c => e 39 c rfl
  have e40 : ∀ c, M' 40 j c = M 40 j c := fun c => e 40 c rfl
  have f1 : M' 8 j 13 = M 8 j 13 := e 8 _ rfl
  have f2 : M' 8 j 14 = M 8 j 14 := e 8 _ rfl
  have f3 : M' 8 j 15 = M 8 j 15 := e 8 _ rfl
  have f4 : M' 8 j 16 = M 8 j 16 := e 8 _ rfl
  have f5 : M' 8 j 17 = M 8 j 17 := e 8 _ rfl
  unfold CS at h ⊢
  simp only [e31, e32, e33, e34, e35, e36, e37, e38, e39, e40, f1, f2, f3, f4, f5]
  exact h
