-- the reference: a token at a time
def RTp (B : Nat → Nat) (n : Nat) (I : zI) : Prop := I 12 0 6 = nI n ∧ n ≤ 700 ∧ (∀ i, i < n → I 51 0 i = nI (B i) ∧ B i < 256) ∧ ∀ i, i < 90 → I 52 0 i = wrdR.getD i 0
def frK (I I' : zI) : Prop := ∀ a b c, ¬ (a = 12 ∧ b = 0 ∧ (c = 7 ∨ c = 8 ∨ c = 9 ∨ c = 10)) → I' a b c = I a b c
theorem frK.tr {I I1 I2 : zI} (h : frK I I1) (h2 : frK I1 I2) : frK I I2 := fun a b c q => (h2 a b c q).trans (h a b c q)
theorem RTp.q {B : Nat → Nat} {n : Nat} {I I' : zI} (h : RTp B n I) (e : ∀ a c, (a = 12 ∧ c = 6) ∨ a = 51 ∨ a = 52 → I' a 0 c = I a 0 c) : RTp B n I' := ⟨(e _ _ (Or.inl ⟨rfl, rfl⟩)).trans h.1, h.2.1, fun i hi => by rw [e 51 i (by omega)]; exact h.2.2.1 i hi, fun i hi => by rw [e 52 i (by omega)]; exact h.2.2.2 i hi⟩
theorem RTp.k {B : Nat → Nat} {n : Nat} {I I' : zI} (h : RTp B n I) (e : frK I I') : RTp B n I' := h.q (fun a c q => e a 0 c (by omega))
def sgc (k : Nat) : Nat := if k = 21 then 59 else if k = 22 then 40 else if k = 23 then 41 else if k = 24 then 43 else if k = 25 then 45 else if k = 26 then 42 else 47
def numR (v w : Int32) : Prop := ∃ a b : Nat, v = nI a ∧ w = nI b ∧ ((a = b ∧ a ≤ 999999) ∨ (99999 < a ∧ 99999 < b)) ∧ a ≤ 1000000 ∧ b ≤ 1000000
def RTk (k : Nat) (v x w : Int32) : Prop :=
  (k = 34 ∧ x = 0) ∨ (k ≤ 18 ∧ x = 1 ∧ w = nI (sgm k)) ∨ (k = 19 ∧ x = 2 ∧ w = v) ∨ (k = 20 ∧ x = 3 ∧ numR v w) ∨ (21 ≤ k ∧ k ≤ 27 ∧ x = 4 ∧ w = nI (sgc k)) ∨ (28 ≤ k ∧ k ≤ 33 ∧ x = 5 ∧ w = nI (k - 28)) ∨ (k = 35 ∧ (x = 6 ∨ (x = 4 ∧ w = 37)))
def rtk (t : Nat × Int32 × Nat × Nat) (I : zI) : Prop := I 12 0 7 = nI t.2.2.2 ∧ I 12 0 10 = nI t.2.2.1 ∧ RTk t.1 t.2.1 (I 12 0 8) (I 12 0 9)
theorem p_isSmall {K : zQ} {I : zI} {L : zJ} {P : zP} {B : Nat → Nat} {n p : Nat} (h : RTp B n I) (hp : p < 2147483648) (hK : K [.inl (bI (decide (p < n) && isL (B p)))] (I, L, P)) : mX12_isSmall K [refR, .inl (nI p)] (I, L, P) := by
  obtain ⟨h1, h2, h3, h4⟩ := h
  show bX12_isSmall_0 K [some (.inr (.inr (12,0))), some (.inl (nI p))] [] (I, L, P)
  unfold bX12_isSmall_0
  dsimp only [x_int, x_lng, x_ild, x_lld, x_ald, x_ist, x_ast, x_lst, x_inc, x_ii, x_id, x_i, x_ll, x_ld, x_l, x_cmp, x_i2l, x_l2i, x_if, x_ic, x_dup, x_pop, x_dup2, x_gI, x_gL, x_gR, x_g1, x_g0, x_gP, x_pI, x_pZ, x_pL, x_pP, x_al, x_as, x_all, x_asl, x_alr, x_len, x_cpy, x_m2, x_m1, x_m2l, x_m1l, x_call, x_cv, x_ri, x_rz, x_rl, x_rv, zg, zset, zbef, zlong, zcat, cond_true, cond_false, List.take, List.drop, rv1, rv2, rv3, rv4, rv5, rv6, rv7, sm0, sm1, bl0, bl1, bl2, bl3, bl4, bl5, bl6, bl7, bl8, List.nil_append, List.cons_append, List.length_cons, List.length_nil, Nat.reduceBEq, Nat.reduceAdd, Nat.reduceSub, ta, tb, tn0, tn1, tn2, tn3, tn4, tn5, tn6, tn7, tn8, tn9, tn10, tn11, tn12, zk_51, zl_51, bX12_isSmall_34, bX12_isSmall_35]
  rw [h1, n_cl hp]
  refine ⟨fun q => ⟨Or.inl rfl, ?_⟩, fun q => ?_⟩
  · have q : nI n ≤ nI p := q
    rw [n_le (by omega) hp] at q
    rw [decide_eq_false (by omega)] at hK; exact hK
  · have q : ¬ nI n ≤ nI p := q
    rw [n_le (by omega) hp] at q
    obtain ⟨t1, t2⟩ := h3 p (by omega)
    rw [decide_eq_true (by omega), Bool.true_and] at hK
    rw [t1]
    have z : zin (nI p) 700 := n_zin (by omega) (by decide)
    refine ⟨z, fun d => ⟨Or.inl rfl, ?_⟩, fun d => ⟨z, fun d2 => ⟨Or.inl rfl, ?_⟩, fun d2 => ⟨Or.inr rfl, ?_⟩⟩⟩
    · have d : nI (B p) < nI 97 := d
      rw [n_lt (by omega) (by omega)] at d
      rw [show isL (B p) = false from decide_eq_false (by omega)] at hK; exact hK
    · have d2 : nI 122 < nI (B p) := d2
      rw [n_lt (by omega) (by omega)] at d2
      rw [show isL (B p) = false from decide_eq_false (by omega)] at hK; exact hK
    · have d : ¬ nI (B p) < nI 97 := d
      have d2 : ¬ nI 122 < nI (B p) := d2
      rw [n_lt (by omega) (by omega)] at d d2
      rw [show isL (B p) = true from decide_eq_true (by omega)] at hK; exact hK
theorem p_isDigit12 {K : zQ} {I : zI} {L : zJ} {P : zP} {B : Nat → Nat} {n p : Nat} (h : RTp B n I) (hp : p < 2147483648) (hK : K [.inl (bI (decide (p < n) && isD (B p)))] (I, L, P)) : mX12_isDigit K [refR, .inl (nI p)] (I, L, P) := by
  obtain ⟨h1, h2, h3, h4⟩ := h
  show bX12_isDigit_0 K [some (.inr (.inr (12,0))), some (.inl (nI p))] [] (I, L, P)
  unfold bX12_isDigit_0
  dsimp only [x_int, x_lng, x_ild, x_lld, x_ald, x_ist, x_ast, x_lst, x_inc, x_ii, x_id, x_i, x_ll, x_ld, x_l, x_cmp, x_i2l, x_l2i, x_if, x_ic, x_dup, x_pop, x_dup2, x_gI, x_gL, x_gR, x_g1, x_g0, x_gP, x_pI, x_pZ, x_pL, x_pP, x_al, x_as, x_all, x_asl, x_alr, x_len, x_cpy, x_m2, x_m1, x_m2l, x_m1l, x_call, x_cv, x_ri, x_rz, x_rl, x_rv, zg, zset, zbef, zlong, zcat, cond_true, cond_false, List.take, List.drop, rv1, rv2, rv3, rv4, rv5, rv6, rv7, sm0, sm1, bl0, bl1, bl2, bl3, bl4, bl5, bl6, bl7, bl8, List.nil_append, List.cons_append, List.length_cons, List.length_nil, Nat.reduceBEq, Nat.reduceAdd, Nat.reduceSub, ta, tb, tn0, tn1, tn2, tn3, tn4, tn5, tn6, tn7, tn8, tn9, tn10, tn11, tn12, zk_51, zl_51, bX12_isDigit_34, bX12_isDigit_35]
  rw [h1, n_cl hp]
  refine ⟨fun q => ⟨Or.inl rfl, ?_⟩, fun q => ?_⟩
  · have q : nI n ≤ nI p := q
    rw [n_le (by omega) hp] at q
    rw [decide_eq_false (by omega)] at hK; exact hK
  · have q : ¬ nI n ≤ nI p := q
    rw [n_le (by omega) hp] at q
    obtain ⟨t1, t2⟩ := h3 p (by omega)
    rw [decide_eq_true (by omega), Bool.true_and] at hK
    rw [t1]
    have z : zin (nI p) 700 := n_zin (by omega) (by decide)
    refine ⟨z, fun d => ⟨Or.inl rfl, ?_⟩, fun d => ⟨z, fun d2 => ⟨Or.inl rfl, ?_⟩, fun d2 => ⟨Or.inr rfl, ?_⟩⟩⟩
    · have d : nI (B p) < nI 48 := d
      rw [n_lt (by omega) (by omega)] at d
      rw [show isD (B p) = false from decide_eq_false (by omega)] at hK; exact hK
    · have d2 : nI 57 < nI (B p) := d2
      rw [n_lt (by omega) (by omega)] at d2
      rw [show isD (B p) = false from decide_eq_false (by omega)] at hK; exact hK
    · have d : ¬ nI (B p) < nI 48 := d
      have d2 : ¬ nI 57 < nI (B p) := d2
      rw [n_lt (by omega) (by omega)] at d d2
      rw [show isD (B p) = true from decide_eq_true (by omega)] at hK; exact hK
def hN (B : Nat → Nat) (s k : Nat) : Nat → Nat
  | 0 => 0
  | j + 1 => 32 * hN B s k j + Dj B s k j
theorem hN_le {B : Nat → Nat} {s k : Nat} (hd : ∀ j, Dj B s k j < 32) : ∀ j, hN B s k j < 32 ^ j := by
  intro j
  induction j with
  | zero => exact Nat.one_pos
  | succ j ih =>
    have := hd j
    show 32 * hN B s k j + Dj B s k j < _
    rw [Nat.pow_succ]
    omega
theorem hN_6 {B : Nat → Nat} {s k : Nat} : hN B s k 6 = pkN B s k := by
  simp only [hN, pkN]
  omega
theorem p_packed {K : zQ} {I : zI} {L : zJ} {P : zP} {B : Nat → Nat} {n s e : Nat} (h : RTp B n I) (hse : s ≤ e) (hen : e ≤ n) (hl : ∀ j, j < e - s → isL (B (s + j)) = true) (hK : K [.inl (nI (pkN B s (e - s)))] (I, L, P)) : mX12_packed K [refR, .inl (nI s), .inl (nI e)] (I, L, P) := by
  obtain ⟨h1, h2, h3, h4⟩ := h
  have dl : ∀ j, Dj B s (e - s) j < 32 := fun j => by
    unfold Dj
    by_cases z : j < e - s
    · rw [if_pos z]
      have : 97 ≤ B (s + j) ∧ B (s + j) ≤ 122 := of_decide_eq_true (hl j z)
      omega
    · rw [if_neg z]; omega
  show bX12_packed_5 K [some refR, some (.inl (nI s)), some (.inl (nI e)), some (.inl 0), some (.inl (nI s))] [] (I, L, P)
  refine zinv 6 (fun j Z M => Z = [some refR, some (.inl (nI s)), some (.inl (nI e)), some (.inl (nI (hN B s (e - s) j))), some (.inl (nI (s + j)))] ∧ M = (I, L, P)) ?_ ?_ ⟨rfl, rfl⟩
  · rintro j Z M hj ⟨rfl, rfl⟩ self hself
    have hl5 := hN_le dl j
    have p5 : (32 : Nat) ^ j ≤ 32 ^ 5 := Nat.pow_le_pow_right (by decide) (by omega)
    have hh : hN B s (e - s) j < 33554432 := Nat.lt_of_lt_of_le hl5 p5
    have sh : nI (hN B s (e - s) j) <<< (5 &&& 31 : Int32) = nI (hN B s (e - s) j * 2 ^ 5) := pk_shlN (5 &&& 31) 5 (by decide) (by omega)
    dsimp only [x_int, x_lng, x_ild, x_lld, x_ald, x_ist, x_ast, x_lst, x_inc, x_ii, x_id, x_i, x_ll, x_ld, x_l, x_cmp, x_i2l, x_l2i, x_if, x_ic, x_dup, x_pop, x_dup2, x_gI, x_gL, x_gR, x_g1, x_g0, x_gP, x_pI, x_pZ, x_pL, x_pP, x_al, x_as, x_all, x_asl, x_alr, x_len, x_cpy, x_m2, x_m1, x_m2l, x_m1l, x_call, x_cv, x_ri, x_rz, x_rl, x_rv, zg, zset, zbef, zlong, zcat, cond_true, cond_false, List.take, List.drop, rv1, rv2, rv3, rv4, rv5, rv6, rv7, sm0, sm1, bl0, bl1, bl2, bl3, bl4, bl5, bl6, bl7, bl8, List.nil_append, List.cons_append, List.length_cons, List.length_nil, Nat.reduceBEq, Nat.reduceAdd, Nat.reduceSub, ta, tb, tn0, tn1, tn2, tn3, tn4, tn5, tn6, tn7, tn8, tn9, tn10, tn11, tn12, zk_51, zl_51, bX12_packed_37]
    rw [sh, n_succ, show nI s + 6 = nI (s + 6) from n_add s 6, n_cl (n := s + j) (by omega)]
    have fin : ∀ v : Nat, v = Dj B s (e - s) j → self [some refR, some (.inl (nI s)), some (.inl (nI e)), some (.inl (nI (hN B s (e - s) j * 2 ^ 5) ||| nI v)), some (.inl (nI (s + j + 1)))] [] (I, L, P) := fun v hv => by
      subst hv
      have := dl j
      rw [Nat.mul_comm, nI_or_add (i := 5) (by omega)]
      exact hself _ _ ⟨rfl, rfl⟩
    refine ⟨fun q => ?_, fun _ => ⟨fun q => fin 0 ?_, fun q => ?_⟩⟩
    · have q : nI (s + 6) ≤ nI (s + j) := q
      rw [n_le (by omega) (by omega)] at q
      omega
    · have q : nI e ≤ nI (s + j) := q
      rw [n_le (by omega) (by omega)] at q
      unfold Dj
      rw [if_neg (by omega)]
    · have q : ¬ nI e ≤ nI (s + j) := q
      rw [n_le (by omega) (by omega)] at q
      have l : 97 ≤ B (s + j) ∧ B (s + j) ≤ 122 := of_decide_eq_true (hl j (by omega))
      rw [(h3 (s + j) (by omega)).1, show (96 : Int32) = nI 96 from rfl, pk_sub (by omega)]
      refine ⟨n_zin (by omega) (by decide), fin _ ?_⟩
      unfold Dj
      rw [if_pos (by omega)]
  · rintro Z M ⟨rfl, rfl⟩ self
    rw [← hN_6] at hK
    dsimp only [x_int, x_lng, x_ild, x_lld, x_ald, x_ist, x_ast, x_lst, x_inc, x_ii, x_id, x_i, x_ll, x_ld, x_l, x_cmp, x_i2l, x_l2i, x_if, x_ic, x_dup, x_pop, x_dup2, x_gI, x_gL, x_gR, x_g1, x_g0, x_gP, x_pI, x_pZ, x_pL, x_pP, x_al, x_as, x_all, x_asl, x_alr, x_len, x_cpy, x_m2, x_m1, x_m2l, x_m1l, x_call, x_cv, x_ri, x_rz, x_rl, x_rv, zg, zset, zbef, zlong, zcat, cond_true, cond_false, List.take, List.drop, rv1, rv2, rv3, rv4, rv5, rv6, rv7, sm0, sm1, bl0, bl1, bl2, bl3, bl4, bl5, bl6, bl7, bl8, List.nil_append, List.cons_append, List.length_cons, List.length_nil, Nat.reduceBEq, Nat.reduceAdd, Nat.reduceSub, ta, tb, tn0, tn1, tn2, tn3, tn4, tn5, tn6, tn7, tn8, tn9, tn10, tn11, tn12]
    rw [show nI s + 6 = nI (s + 6) from n_add s 6]
    exact ⟨fun _ => hK, fun q => absurd (Int32.le_refl _) q⟩
def nuR (B : Nat → Nat) (s : Nat) : Nat → Nat
  | 0 => 0
  | k + 1 => if nuR B s k ≤ 99999 then 10 * nuR B s k + (B (s + k) - 48) else nuR B s k
theorem nu_rel {B : Nat → Nat} {s : Nat} : ∀ k, (∀ j, j < k → isD (B (s + j)) = true) → ((nuC B s k = nuR B s k ∧ nuC B s k ≤ 999999) ∨ (99999 < nuC B s k ∧ 99999 < nuR B s k)) ∧ nuR B s k ≤ 1000000 := by
  intro k
  induction k with
  | zero => intro _; exact ⟨Or.inl ⟨rfl, Nat.zero_le _⟩, Nat.zero_le _⟩
  | succ k ih =>
    intro hl
    have ih := ih (fun j hj => hl j (by omega))
    have d : 48 ≤ B (s + k) ∧ B (s + k) ≤ 57 := of_decide_eq_true (hl k (by omega))
    have s1 : nuC B s (k + 1) = if nuC B s k * 10 + (B (s + k) - 48) < 1000000 then nuC B s k * 10 + (B (s + k) - 48) else 1000000 := rfl
    have s2 : nuR B s (k + 1) = if nuR B s k ≤ 99999 then 10 * nuR B s k + (B (s + k) - 48) else nuR B s k := rfl
    rw [s1, s2]
    by_cases z : nuC B s k * 10 + (B (s + k) - 48) < 1000000
    · rw [if_pos z]
      by_cases y : nuR B s k ≤ 99999
      · rw [if_pos y]; omega
      · rw [if_neg y]; omega
    · rw [if_neg z]
      by_cases y : nuR B s k ≤ 99999
      · rw [if_pos y]; omega
      · rw [if_neg y]; omega
