-- tokens
def run (P : Nat → Bool) (n : Nat) : Nat → Nat → Nat
  | 0, p => p
  | f + 1, p => if p < n ∧ P p = true then run P n f (p + 1) else p
def rn (P : Nat → Bool) (n p : Nat) : Nat := run P n (n - p) p
theorem rn_go {P : Nat → Bool} {n p : Nat} (h : p < n) (hp : P p = true) : rn P n p = rn P n (p + 1) := by
  unfold rn
  rw [show n - p = (n - (p + 1)) + 1 by omega]
  exact if_pos ⟨h, hp⟩
theorem rn_stop {P : Nat → Bool} {n p : Nat} (h : ¬ (p < n ∧ P p = true)) : rn P n p = p := by
  unfold rn
  cases e : n - p with
  | zero => rfl
  | succ k => exact if_neg h
theorem rn_le {P : Nat → Bool} {n : Nat} : ∀ k p, n - p = k → p ≤ n → p ≤ rn P n p ∧ rn P n p ≤ n := by
  intro k
  induction k with
  | zero => intro p h1 h2; rw [rn_stop (by omega)]; omega
  | succ k ih =>
    intro p h1 h2
    by_cases c : p < n ∧ P p = true
    · rw [rn_go c.1 c.2]
      have := ih (p + 1) (by omega) (by omega)
      omega
    · rw [rn_stop c]; omega
theorem rn_b {P : Nat → Bool} {n p : Nat} (h : p ≤ n) : p ≤ rn P n p ∧ rn P n p ≤ n := rn_le _ p rfl h
theorem rn_all {P : Nat → Bool} {n : Nat} : ∀ k p, n - p = k → p ≤ n → ∀ j, p ≤ j → j < rn P n p → P j = true := by
  intro k
  induction k with
  | zero => intro p h1 h2 j h3 h4; rw [rn_stop (by omega)] at h4; omega
  | succ k ih =>
    intro p h1 h2 j h3 h4
    by_cases c : p < n ∧ P p = true
    · rw [rn_go c.1 c.2] at h4
      by_cases e : j = p
      · rw [e]; exact c.2
      · exact ih (p + 1) (by omega) (by omega) j (by omega) h4
    · rw [rn_stop c] at h4; omega
def isL (b : Nat) : Bool := decide (97 ≤ b ∧ b ≤ 122)
def isD (b : Nat) : Bool := decide (48 ≤ b ∧ b ≤ 57)
def isW (b : Nat) : Bool := decide (b = 10 ∨ b = 32)
def lb (x k : Nat) : Int32 := if 5 * (5 - nI k) < 0 then 0 else (nI x - 97 + 1) <<< ((5 * (5 - nI k)) &&& 31)
def pkC (B : Nat → Nat) (s : Nat) : Nat → Int32
  | 0 => 0
  | k + 1 => pkC B s k ||| lb (B (s + k)) k
def nuC (B : Nat → Nat) (s : Nat) : Nat → Nat
  | 0 => 0
  | k + 1 => if nuC B s k * 10 + (B (s + k) - 48) < 1000000 then nuC B s k * 10 + (B (s + k) - 48) else 1000000
def kow (v : Int32) : Nat → Nat
  | 0 => 19
  | k + 1 => if wrdC.getD (19 - (k + 1)) 0 = v then 19 - (k + 1) else kow v k
def kos (c : Nat) : Nat := if c = 40 then 22 else if c = 41 then 23 else if c = 42 then 26 else if c = 43 then 24 else if c = 45 then 25 else if c = 47 then 27 else if c = 59 then 21 else if c = 60 then 28 else if c = 61 then 30 else if c = 62 then 33 else 35
def sgB (B : Nat → Nat) (n p : Nat) : Nat := if p < n then B p else 0
/-- kind, value, start, where it goes on -/
def tkn (B : Nat → Nat) (n p : Nat) : Nat × Int32 × Nat × Nat :=
  let s := rn (fun q => isW (B q)) n p
  if s < n then
    (if isL (B s) = true then ((if rn (fun q => isL (B q)) n s - s ≤ 6 then kow (pkC B s (rn (fun q => isL (B q)) n s - s)) 19 else 35), pkC B s (rn (fun q => isL (B q)) n s - s), s, rn (fun q => isL (B q)) n s)
    else if isD (B s) = true then (20, nI (nuC B s (rn (fun q => isD (B q)) n s - s)), s, rn (fun q => isD (B q)) n s)
    else if B s = 60 ∧ sgB B n (s + 1) = 62 then (31, 0, s, s + 2)
    else if (B s = 60 ∨ B s = 62) ∧ sgB B n (s + 1) = 61 then ((if B s = 60 then 29 else 32), 0, s, s + 2)
    else (kos (B s), 0, s, s + 1))
  else (34, 0, s, s)
abbrev scR : zV := .inr (.inr (7, 0))
def SCx (B : Nat → Nat) (n : Nat) (I : zI) (P : zP) : Prop := I 7 0 5 = nI n ∧ P 7 0 4 = 0 ∧ n ≤ 700 ∧ ∀ i, i < n → I 47 0 i &&& 255 = nI (B i) ∧ B i < 256
def fr7 (I I' : zI) : Prop := ∀ a b c, ¬ (a = 7 ∧ b = 0 ∧ (c = 6 ∨ c = 9 ∨ c = 10 ∨ c = 11)) → I' a b c = I a b c
theorem fr7.tr {I I1 I2 : zI} (h : fr7 I I1) (h2 : fr7 I1 I2) : fr7 I I2 := fun a b c q => (h2 a b c q).trans (h a b c q)
theorem SCx.q {B : Nat → Nat} {n : Nat} {I I' : zI} {P : zP} (h : SCx B n I P) (e : I' 7 0 5 = I 7 0 5) (e2 : ∀ c, I' 47 0 c = I 47 0 c) : SCx B n I' P := ⟨e.trans h.1, h.2.1, h.2.2.1, fun i hi => by rw [e2]; exact h.2.2.2 i hi⟩
theorem SCx.z {B : Nat → Nat} {n : Nat} {I I' : zI} {P : zP} (h : SCx B n I P) (e : fr7 I I') : SCx B n I' P := h.q (e _ _ _ (by decide)) (fun c => e _ _ _ (by omega))
theorem p_signAt {K : zQ} {I : zI} {L : zJ} {P : zP} {B : Nat → Nat} {n p : Nat} (h : SCx B n I P) (hp : p < 2147483648) (hK : K [.inl (nI (sgB B n p))] (I, L, P)) : mX7_signAt K [scR, .inl (nI p)] (I, L, P) := by
  obtain ⟨h1, h2, h3, h4⟩ := h
  unfold sgB at hK
  show bX7_signAt_0 K [some (.inr (.inr (7,0))), some (.inl (nI p))] [] (I, L, P)
  unfold bX7_signAt_0
  dsimp only [x_int, x_lng, x_ild, x_lld, x_ald, x_ist, x_ast, x_lst, x_inc, x_ii, x_id, x_i, x_ll, x_ld, x_l, x_cmp, x_i2l, x_l2i, x_if, x_ic, x_dup, x_pop, x_dup2, x_gI, x_gL, x_gR, x_g1, x_g0, x_gP, x_pI, x_pZ, x_pL, x_pP, x_al, x_as, x_all, x_asl, x_alr, x_len, x_cpy, x_m2, x_m1, x_m2l, x_m1l, x_call, x_cv, x_ri, x_rz, x_rl, x_rv, zg, zset, zbef, zlong, zcat, cond_true, cond_false, List.take, List.drop, rv1, rv2, rv3, rv4, rv5, rv6, rv7, sm0, sm1, bl0, bl1, bl2, bl3, bl4, bl5, bl6, bl7, bl8, List.nil_append, List.cons_append, List.length_cons, List.length_nil, Nat.reduceBEq, Nat.reduceAdd, Nat.reduceSub, ta, tb, tn0, tn1, tn2, tn3, tn4, tn5, tn6, tn7, tn8, tn9, tn10, tn11, tn12, zk_47, zl_47, bX7_signAt_25, bX7_signAt_26]
  rw [h1, h2, n_cl hp]
  refine ⟨fun q => ?_, fun _ => ⟨fun q => ?_, fun q => ?_⟩⟩
  · have q : nI p < nI 0 := q
    rw [n_lt hp (by omega)] at q
    omega
  · have q : nI n ≤ nI p := q
    rw [n_le (by omega) hp] at q
    rw [if_neg (by omega)] at hK; exact hK
  · have q : ¬ nI n ≤ nI p := q
    rw [n_le (by omega) hp] at q
    rw [if_pos (by omega)] at hK
    refine ⟨by decide, n_zin (by omega) (by decide), ?_⟩
    rw [(h4 p (by omega)).1]; exact hK
theorem p_isLetter {K : zQ} {M : zM} {b : Nat} (hb : b < 2147483648) (hK : K [.inl (bI (isL b))] M) : mX7_isLetter K [.inl (nI b)] M := by
  show bX7_isLetter_0 K [some (.inl (nI b))] [] M
  unfold bX7_isLetter_0
  dsimp only [x_int, x_lng, x_ild, x_lld, x_ald, x_ist, x_ast, x_lst, x_inc, x_ii, x_id, x_i, x_ll, x_ld, x_l, x_cmp, x_i2l, x_l2i, x_if, x_ic, x_dup, x_pop, x_dup2, x_gI, x_gL, x_gR, x_g1, x_g0, x_gP, x_pI, x_pZ, x_pL, x_pP, x_al, x_as, x_all, x_asl, x_alr, x_len, x_cpy, x_m2, x_m1, x_m2l, x_m1l, x_call, x_cv, x_ri, x_rz, x_rl, x_rv, zg, zset, zbef, zlong, zcat, cond_true, cond_false, List.take, List.drop, rv1, rv2, rv3, rv4, rv5, rv6, rv7, sm0, sm1, bl0, bl1, bl2, bl3, bl4, bl5, bl6, bl7, bl8, List.nil_append, List.cons_append, List.length_cons, List.length_nil, Nat.reduceBEq, Nat.reduceAdd, Nat.reduceSub, ta, tb, tn0, tn1, tn2, tn3, tn4, tn5, tn6, tn7, tn8, tn9, tn10, tn11, tn12, bX7_isLetter_16, bX7_isLetter_17]
  refine ⟨fun q => ⟨Or.inl rfl, ?_⟩, fun q => ⟨fun d => ⟨Or.inl rfl, ?_⟩, fun d => ⟨Or.inr rfl, ?_⟩⟩⟩
  · have q : nI b < nI 97 := q
    rw [n_lt hb (by omega)] at q
    rw [show isL b = false from decide_eq_false (by omega)] at hK; exact hK
  · have d : nI 122 < nI b := d
    rw [n_lt (by omega) hb] at d
    rw [show isL b = false from decide_eq_false (by omega)] at hK; exact hK
  · have q : ¬ nI b < nI 97 := q
    have d : ¬ nI 122 < nI b := d
    rw [n_lt hb (by omega)] at q
    rw [n_lt (by omega) hb] at d
    rw [show isL b = true from decide_eq_true (by omega)] at hK; exact hK
theorem p_isDigit7 {K : zQ} {M : zM} {b : Nat} (hb : b < 2147483648) (hK : K [.inl (bI (isD b))] M) : mX7_isDigit K [.inl (nI b)] M := by
  show bX7_isDigit_0 K [some (.inl (nI b))] [] M
  unfold bX7_isDigit_0
  dsimp only [x_int, x_lng, x_ild, x_lld, x_ald, x_ist, x_ast, x_lst, x_inc, x_ii, x_id, x_i, x_ll, x_ld, x_l, x_cmp, x_i2l, x_l2i, x_if, x_ic, x_dup, x_pop, x_dup2, x_gI, x_gL, x_gR, x_g1, x_g0, x_gP, x_pI, x_pZ, x_pL, x_pP, x_al, x_as, x_all, x_asl, x_alr, x_len, x_cpy, x_m2, x_m1, x_m2l, x_m1l, x_call, x_cv, x_ri, x_rz, x_rl, x_rv, zg, zset, zbef, zlong, zcat, cond_true, cond_false, List.take, List.drop, rv1, rv2, rv3, rv4, rv5, rv6, rv7, sm0, sm1, bl0, bl1, bl2, bl3, bl4, bl5, bl6, bl7, bl8, List.nil_append, List.cons_append, List.length_cons, List.length_nil, Nat.reduceBEq, Nat.reduceAdd, Nat.reduceSub, ta, tb, tn0, tn1, tn2, tn3, tn4, tn5, tn6, tn7, tn8, tn9, tn10, tn11, tn12, bX7_isDigit_16, bX7_isDigit_17]
  refine ⟨fun q => ⟨Or.inl rfl, ?_⟩, fun q => ⟨fun d => ⟨Or.inl rfl, ?_⟩, fun d => ⟨Or.inr rfl, ?_⟩⟩⟩
  · have q : nI b < nI 48 := q
    rw [n_lt hb (by omega)] at q
    rw [show isD b = false from decide_eq_false (by omega)] at hK; exact hK
  · have d : nI 57 < nI b := d
    rw [n_lt (by omega) hb] at d
    rw [show isD b = false from decide_eq_false (by omega)] at hK; exact hK
  · have q : ¬ nI b < nI 48 := q
    have d : ¬ nI 57 < nI b := d
    rw [n_lt hb (by omega)] at q
    rw [n_lt (by omega) hb] at d
    rw [show isD b = true from decide_eq_true (by omega)] at hK; exact hK
theorem p_letterBits {K : zQ} {M : zM} {x k : Nat} (hK : K [.inl (lb x k)] M) : mX7_letterBits K [.inl (nI x), .inl (nI k)] M := by
  unfold lb at hK
  show bX7_letterBits_0 K [some (.inl (nI x)), some (.inl (nI k)), none] [] M
  unfold bX7_letterBits_0
  dsimp only [x_int, x_lng, x_ild, x_lld, x_ald, x_ist, x_ast, x_lst, x_inc, x_ii, x_id, x_i, x_ll, x_ld, x_l, x_cmp, x_i2l, x_l2i, x_if, x_ic, x_dup, x_pop, x_dup2, x_gI, x_gL, x_gR, x_g1, x_g0, x_gP, x_pI, x_pZ, x_pL, x_pP, x_al, x_as, x_all, x_asl, x_alr, x_len, x_cpy, x_m2, x_m1, x_m2l, x_m1l, x_call, x_cv, x_ri, x_rz, x_rl, x_rv, zg, zset, zbef, zlong, zcat, cond_true, cond_false, List.take, List.drop, rv1, rv2, rv3, rv4, rv5, rv6, rv7, sm0, sm1, bl0, bl1, bl2, bl3, bl4, bl5, bl6, bl7, bl8, List.nil_append, List.cons_append, List.length_cons, List.length_nil, Nat.reduceBEq, Nat.reduceAdd, Nat.reduceSub, ta, tb, tn0, tn1, tn2, tn3, tn4, tn5, tn6, tn7, tn8, tn9, tn10, tn11, tn12, bX7_letterBits_22]
  refine ⟨fun q => ?_, fun q => ?_⟩
  · rw [if_pos q] at hK; exact hK
  · rw [if_neg q] at hK; exact hK
theorem p_kindOfWord {K : zQ} {I : zI} {L : zJ} {P : zP} {v : Int32} (hw : RCw I) (hK : K [.inl (nI (kow v 19))] (I, L, P)) : mX7_kindOfWord K [scR, .inl v] (I, L, P) := by
  show bX7_kindOfWord_2 K [some scR, some (.inl v), some (.inl 0)] [] (I, L, P)
  refine zinv 19 (fun w Z M => Z = [some scR, some (.inl v), some (.inl (nI w))] ∧ M = (I, L, P) ∧ kow v 19 = kow v (19 - w)) ?_ ?_ ⟨rfl, rfl, rfl⟩
  · rintro w Z M hh ⟨rfl, rfl, e⟩ self hself
    have st : kow v (19 - w) = if wrdC.getD w 0 = v then w else kow v (19 - (w + 1)) := by
      rw [show 19 - w = (19 - (w + 1)) + 1 by omega]
      show (if wrdC.getD (19 - (19 - (w + 1) + 1)) 0 = v then _ else _) = _
      rw [show 19 - (19 - (w + 1) + 1) = w by omega]
    dsimp only [x_int, x_lng, x_ild, x_lld, x_ald, x_ist, x_ast, x_lst, x_inc, x_ii, x_id, x_i, x_ll, x_ld, x_l, x_cmp, x_i2l, x_l2i, x_if, x_ic, x_dup, x_pop, x_dup2, x_gI, x_gL, x_gR, x_g1, x_g0, x_gP, x_pI, x_pZ, x_pL, x_pP, x_al, x_as, x_all, x_asl, x_alr, x_len, x_cpy, x_m2, x_m1, x_m2l, x_m1l, x_call, x_cv, x_ri, x_rz, x_rl, x_rv, zg, zset, zbef, zlong, zcat, cond_true, cond_false, List.take, List.drop, rv1, rv2, rv3, rv4, rv5, rv6, rv7, sm0, sm1, bl0, bl1, bl2, bl3, bl4, bl5, bl6, bl7, bl8, List.nil_append, List.cons_append, List.length_cons, List.length_nil, Nat.reduceBEq, Nat.reduceAdd, Nat.reduceSub, ta, tb, tn0, tn1, tn2, tn3, tn4, tn5, tn6, tn7, tn8, tn9, tn10, tn11, tn12, zk_27, zl_27]
    rw [n_cl (n := w) (by omega), hw w hh, n_succ w]
    refine ⟨fun q => absurd q (lt_go (n := 19) rfl (by omega) hh), fun _ => ⟨n_zin hh (by decide), fun c => ?_, fun c => ?_⟩⟩
    · have c : wrdC.getD w 0 = v := c
      rw [if_pos c] at st
      rw [e, st] at hK; exact hK
    · have c : ¬ wrdC.getD w 0 = v := c
      rw [if_neg c] at st
      exact hself _ _ ⟨rfl, rfl, e.trans st⟩
  · rintro Z M ⟨rfl, rfl, e⟩ self
    rw [e] at hK
    dsimp only [x_int, x_lng, x_ild, x_lld, x_ald, x_ist, x_ast, x_lst, x_inc, x_ii, x_id, x_i, x_ll, x_ld, x_l, x_cmp, x_i2l, x_l2i, x_if, x_ic, x_dup, x_pop, x_dup2, x_gI, x_gL, x_gR, x_g1, x_g0, x_gP, x_pI, x_pZ, x_pL, x_pP, x_al, x_as, x_all, x_asl, x_alr, x_len, x_cpy, x_m2, x_m1, x_m2l, x_m1l, x_call, x_cv, x_ri, x_rz, x_rl, x_rv, zg, zset, zbef, zlong, zcat, cond_true, cond_false, List.take, List.drop, rv1, rv2, rv3, rv4, rv5, rv6, rv7, sm0, sm1, bl0, bl1, bl2, bl3, bl4, bl5, bl6, bl7, bl8, List.nil_append, List.cons_append, List.length_cons, List.length_nil, Nat.reduceBEq, Nat.reduceAdd, Nat.reduceSub, ta, tb, tn0, tn1, tn2, tn3, tn4, tn5, tn6, tn7, tn8, tn9, tn10, tn11, tn12]
    exact ⟨fun _ => hK, fun q => absurd q (lt_out (n := 19) rfl)⟩
theorem p_kindOfSign {K : zQ} {M : zM} {c : Nat} (hc : c < 256) (hK : K [.inl (nI (kos c))] M) : mX7_kindOfSign K [.inl (nI c)] M := by
  unfold kos at hK
  show bX7_kindOfSign_0 K [some (.inl (nI c))] [] M
  unfold bX7_kindOfSign_0
  dsimp only [x_int, x_lng, x_ild, x_lld, x_ald, x_ist, x_ast, x_lst, x_inc, x_ii, x_id, x_i, x_ll, x_ld, x_l, x_cmp, x_i2l, x_l2i, x_if, x_ic, x_dup, x_pop, x_dup2, x_gI, x_gL, x_gR, x_g1, x_g0, x_gP, x_pI, x_pZ, x_pL, x_pP, x_al, x_as, x_all, x_asl, x_alr, x_len, x_cpy, x_m2, x_m1, x_m2l, x_m1l, x_call, x_cv, x_ri, x_rz, x_rl, x_rv, zg, zset, zbef, zlong, zcat, cond_true, cond_false, List.take, List.drop, rv1, rv2, rv3, rv4, rv5, rv6, rv7, sm0, sm1, bl0, bl1, bl2, bl3, bl4, bl5, bl6, bl7, bl8, List.nil_append, List.cons_append, List.length_cons, List.length_nil, Nat.reduceBEq, Nat.reduceAdd, Nat.reduceSub, ta, tb, tn0, tn1, tn2, tn3, tn4, tn5, tn6, tn7, tn8, tn9, tn10, tn11, tn12, g_sw, bX7_kindOfSign_138]
  have e : ∀ d : Nat, d < 256 → (nI c = nI d ↔ c = d) := fun d hd => n_eq (by omega) (by omega)
  refine ⟨fun q => ?_, fun q40 => ?_⟩
  · have q : nI c = nI 40 := q
    rw [e 40 (by omega)] at q
    subst q
    exact hK
  refine ⟨fun q => ?_, fun q41 => ?_⟩
  · have q : nI c = nI 41 := q
    rw [e 41 (by omega)] at q
    subst q
    exact hK
  refine ⟨fun q => ?_, fun q42 => ?_⟩
  · have q : nI c = nI 42 := q
    rw [e 42 (by omega)] at q
    subst q
    exact hK
  refine ⟨fun q => ?_, fun q43 => ?_⟩
  · have q : nI c = nI 43 := q
    rw [e 43 (by omega)] at q
    subst q
    exact hK
  refine ⟨fun q => ?_, fun q44 => ?_⟩
  · have q : nI c = nI 44 := q
    rw [e 44 (by omega)] at q
    subst q
    exact hK
  refine ⟨fun q => ?_, fun q45 => ?_⟩
  · have q : nI c = nI 45 := q
    rw [e 45 (by omega)] at q
    subst q
    exact hK
  refine ⟨fun q => ?_, fun q46 => ?_⟩
  · have q : nI c = nI 46 := q
    rw [e 46 (by omega)] at q
    subst q
    exact hK
  refine ⟨fun q => ?_, fun q47 => ?_⟩
  · have q : nI c = nI 47 := q
    rw [e 47 (by omega)] at q
    subst q
    exact hK
  refine ⟨fun q => ?_, fun q48 => ?_⟩
  · have q : nI c = nI 48 := q
    rw [e 48 (by omega)] at q
    subst q
    exact hK
  refine ⟨fun q => ?_, fun q49 => ?_⟩
  · have q : nI c = nI 49 := q
    rw [e 49 (by omega)] at q
    subst q
    exact hK
  refine ⟨fun q => ?_, fun q50 => ?_⟩
  · have q : nI c = nI 50 := q
    rw [e 50 (by omega)] at q
    subst q
    exact hK
  refine ⟨fun q => ?_, fun q51 => ?_⟩
  · have q : nI c = nI 51 := q
    rw [e 51 (by omega)] at q
    subst q
    exact hK
  refine ⟨fun q => ?_, fun q52 => ?_⟩
  · have q : nI c = nI 52 := q
    rw [e 52 (by omega)] at q
    subst q
    exact hK
  refine ⟨fun q => ?_, fun q53 => ?_⟩
  · have q : nI c = nI 53 := q
    rw [e 53 (by omega)] at q
    subst q
    exact hK
  refine ⟨fun q => ?_, fun q54 => ?_⟩
  · have q : nI c = nI 54 := q
    rw [e 54 (by omega)] at q
    subst q
    exact hK
  refine ⟨fun q => ?_, fun q55 => ?_⟩
  · have q : nI c = nI 55 := q
    rw [e 55 (by omega)] at q
    subst q
    exact hK
  refine ⟨fun q => ?_, fun q56 => ?_⟩
  · have q : nI c = nI 56 := q
    rw [e 56 (by omega)] at q
    subst q
    exact hK
  refine ⟨fun q => ?_, fun q57 => ?_⟩
  · have q : nI c = nI 57 := q
    rw [e 57 (by omega)] at q
    subst q
    exact hK
  refine ⟨fun q => ?_, fun q58 => ?_⟩
  · have q : nI c = nI 58 := q
    rw [e 58 (by omega)] at q
    subst q
    exact hK
  refine ⟨fun q => ?_, fun q59 => ?_⟩
  · have q : nI c = nI 59 := q
    rw [e 59 (by omega)] at q
    subst q
    exact hK
  refine ⟨fun q => ?_, fun q60 => ?_⟩
  · have q : nI c = nI 60 := q
    rw [e 60 (by omega)] at q
    subst q
    exact hK
  refine ⟨fun q => ?_, fun q61 => ?_⟩
  · have q : nI c = nI 61 := q
    rw [e 61 (by omega)] at q
    subst q
    exact hK
  refine ⟨fun q => ?_, fun q62 => ?_⟩
  · have q : nI c = nI 62 := q
    rw [e 62 (by omega)] at q
    subst q
    exact hK
  have ne : ∀ d : Nat, d < 256 → ¬ nI c = nI d → ¬ c = d := fun d hd q => fun z => q (by rw [z])
  rw [if_neg (ne 40 (by omega) q40), if_neg (ne 41 (by omega) q41), if_neg (ne 42 (by omega) q42), if_neg (ne 43 (by omega) q43), if_neg (ne 45 (by omega) q45), if_neg (ne 47 (by omega) q47), if_neg (ne 59 (by omega) q59), if_neg (ne 60 (by omega) q60), if_neg (ne 61 (by omega) q61), if_neg (ne 62 (by omega) q62)] at hK
  exact hK
