-- whose a knock is
def wb (far : Nat → Int32) : Nat → Option Nat
  | 0 => none
  | n + 1 => match wb far n with
    | none => if 2147483647 ≤ far n then none else some n
    | some b => if far b ≤ far n then some b else some n
def wbI (o : Option Nat) : Int32 := match o with
  | none => -2
  | some b => nI b
def wbL (far : Nat → Int32) (o : Option Nat) : Int32 := match o with
  | none => 2147483647
  | some b => far b
theorem wb_lt {far : Nat → Int32} {n b : Nat} (h : wb far n = some b) : b < n := by
  induction n generalizing b with
  | zero => cases h
  | succ n ih =>
    unfold wb at h
    cases e : wb far n with
    | none =>
      rw [e] at h
      dsimp only at h
      split at h
      · cases h
      · cases h; omega
    | some b' =>
      rw [e] at h
      dsimp only at h
      have := ih e
      split at h
      · cases h; omega
      · cases h; omega
theorem wb_succ (far : Nat → Int32) (n : Nat) : wb far (n + 1) = if wbL far (wb far n) ≤ far n then wb far n else some n := by
  show (match wb far n with
    | none => if 2147483647 ≤ far n then none else some n
    | some b => if far b ≤ far n then some b else some n) = _
  cases wb far n with
  | none => rfl
  | some b => rfl
def farf (T : aT) (g : Nat → Int32) (b : Nat) : Int32 := apn (fun k => T.2.1 3 (6 * b + k) - g k) 6
def whof (T : aT) (S : aS) (w : Nat) (g : Nat → Int32) : Option Nat := match wb (farf T g) (T.1 0) with
  | none => none
  | some b => if rch T S b w (farf T g b) < farf T g b then none else some b
theorem whof_lt {T : aT} {S : aS} {w : Nat} {g : Nat → Int32} {b : Nat} (h : whof T S w g = some b) : b < T.1 0 := by
  unfold whof at h
  cases e : wb (farf T g) (T.1 0) with
  | none => rw [e] at h; cases h
  | some b' =>
    rw [e] at h
    dsimp only at h
    split at h
    · cases h
    · cases h; exact wb_lt e
theorem p_whoKnocks {K : zQ} {I : zI} {L : zJ} {P : zP} {j t ka i : Nat} {T : aT} {S : aS} {w : Nat} (ht : P 8 j 0 = t) (hT : CT I t T) (hS : CS I j T S) (hw : w < T.1 1) (hka : (zsrt ka == 1 && zaux ka == 0) = true) (hl : zlen ka = 6) {g : Nat → Int32} (hg : ∀ k, k < 6 → I ka i k = g k)
    (hK : ∀ L' : zJ, zeL2 L L' → K [.inl (wbI (whof T S w g))] (I, L', P)) : mX8_whoKnocks K [.inr (.inr (8, j)), .inr (.inr (ka, i)), .inl (nI w)] (I, L, P) := by
  have h6 := hT.h6
  have hfar : ∀ b, b < T.1 0 → apn (fun k => I 14 (6 * t + b) k - I ka i k) 6 = farf T g b := fun b hb => apn_congr (fun k hk => by rw [(hT.hand hb).2.2.2 k hk, hg k hk])
  show bX8_whoKnocks_10 K [some (.inr (.inr (8, j))), some (.inr (.inr (ka, i))), some (.inl (nI w)), some (.inl (-2)), some (.inl 2147483647), some (.inl 0), none] [] (I, L, P)
  refine zinv (T.1 0) (fun n Z M => ∃ z6 : Option zV, Z = [some (.inr (.inr (8, j))), some (.inr (.inr (ka, i))), some (.inl (nI w)), some (.inl (wbI (wb (farf T g) n))), some (.inl (wbL (farf T g) (wb (farf T g) n))), some (.inl (nI n)), z6] ∧ M = (I, L, P)) ?_ ?_ ⟨none, rfl, rfl⟩
  · rintro n Z M hn ⟨z6, rfl, rfl⟩ self hself
    have hp : P 8 j 0 < 2 := by rw [ht]; exact hT.1
    refine And.intro hp (And.intro (fun c => absurd c (by rw [show (I, L, P).2.2 8 j 0 = t from ht]; exact lt_go hT.2.1.1 (by omega) hn)) (fun _ => And.intro hp (And.intro (n_zin (by show n < 6; omega) (by decide)) ?_)))
    dsimp only [x_int, x_lng, x_ild, x_lld, x_ald, x_ist, x_ast, x_lst, x_inc, x_ii, x_id, x_i, x_ll, x_ld, x_l, x_cmp, x_i2l, x_l2i, x_if, x_ic, x_dup, x_pop, x_dup2, x_gI, x_gL, x_gR, x_g1, x_g0, x_gP, x_pI, x_pZ, x_pL, x_pP, x_al, x_as, x_all, x_asl, x_alr, x_len, x_cpy, x_m2, x_m1, x_m2l, x_m1l, x_call, x_cv, x_ri, x_rz, x_rl, x_rv, zg, zset, zbef, zlong, zcat, cond_true, cond_false, List.take, List.drop, rv1, rv2, rv3, rv4, rv5, rv6, rv7, sm0, sm1, bl0, bl1, bl2, bl3, bl4, bl5, bl6, bl7, bl8, List.nil_append, List.cons_append, List.length_cons, List.length_nil, Nat.reduceBEq, Nat.reduceAdd, Nat.reduceSub, ta, tb, tn0, tn1, tn2, tn3, tn4, tn5, tn6, tn7, tn8, tn9, tn10, tn11, tn12]
    rw [ht, n_cl (n := n) (by omega)]
    refine p_apartFrom hka hl ?_
    rw [hfar n hn]
    dsimp only [x_int, x_lng, x_ild, x_lld, x_ald, x_ist, x_ast, x_lst, x_inc, x_ii, x_id, x_i, x_ll, x_ld, x_l, x_cmp, x_i2l, x_l2i, x_if, x_ic, x_dup, x_pop, x_dup2, x_gI, x_gL, x_gR, x_g1, x_g0, x_gP, x_pI, x_pZ, x_pL, x_pP, x_al, x_as, x_all, x_asl, x_alr, x_len, x_cpy, x_m2, x_m1, x_m2l, x_m1l, x_call, x_cv, x_ri, x_rz, x_rl, x_rv, zg, zset, zbef, zlong, zcat, cond_true, cond_false, List.take, List.drop, rv1, rv2, rv3, rv4, rv5, rv6, rv7, sm0, sm1, bl0, bl1, bl2, bl3, bl4, bl5, bl6, bl7, bl8, List.nil_append, List.cons_append, List.length_cons, List.length_nil, Nat.reduceBEq, Nat.reduceAdd, Nat.reduceSub, ta, tb, tn0, tn1, tn2, tn3, tn4, tn5, tn6, tn7, tn8, tn9, tn10, tn11, tn12, bX8_whoKnocks_52]
    rw [n_succ]
    refine And.intro (fun c => ?_) (fun c => ?_)
    · refine hself _ _ ⟨some (.inl (farf T g n)), ?_, rfl⟩
      rw [wb_succ, if_pos c]
    · refine hself _ _ ⟨some (.inl (farf T g n)), ?_, rfl⟩
      rw [wb_succ, if_neg c]
      rfl
  · rintro Z M ⟨z6, rfl, rfl⟩ self
    have hp : P 8 j 0 < 2 := by rw [ht]; exact hT.1
    refine And.intro hp (And.intro (fun _ => ?_) (fun c => absurd c (by rw [show (I, L, P).2.2 8 j 0 = t from ht]; exact lt_out hT.2.1.1)))
    unfold whof at hK
    cases e : wb (farf T g) (T.1 0) with
    | none =>
      rw [e] at hK
      exact And.intro (fun _ => hK L (fun _ _ _ _ _ => rfl)) (fun c => absurd (show (-2 : Int32) < 0 by decide) c)
    | some b =>
      rw [e] at hK
      have hb := wb_lt e
      refine And.intro (fun c => ?_) (fun _ => ?_)
      · have c : nI b < nI 0 := c
        rw [n_lt (by omega) (by omega)] at c
        omega
      · dsimp only [x_int, x_lng, x_ild, x_lld, x_ald, x_ist, x_ast, x_lst, x_inc, x_ii, x_id, x_i, x_ll, x_ld, x_l, x_cmp, x_i2l, x_l2i, x_if, x_ic, x_dup, x_pop, x_dup2, x_gI, x_gL, x_gR, x_g1, x_g0, x_gP, x_pI, x_pZ, x_pL, x_pP, x_al, x_as, x_all, x_asl, x_alr, x_len, x_cpy, x_m2, x_m1, x_m2l, x_m1l, x_call, x_cv, x_ri, x_rz, x_rl, x_rv, zg, zset, zbef, zlong, zcat, cond_true, cond_false, List.take, List.drop, rv1, rv2, rv3, rv4, rv5, rv6, rv7, sm0, sm1, bl0, bl1, bl2, bl3, bl4, bl5, bl6, bl7, bl8, List.nil_append, List.cons_append, List.length_cons, List.length_nil, Nat.reduceBEq, Nat.reduceAdd, Nat.reduceSub, ta, tb, tn0, tn1, tn2, tn3, tn4, tn5, tn6, tn7, tn8, tn9, tn10, tn11, tn12]
        refine p_reach ht hT hS hb hw (fun L' hL' => ?_)
        have hK := hK L' hL'
        have hK : K [.inl (wbI (if rch T S b w (farf T g b) < farf T g b then none else some b))] (I, L', P) := hK
        refine And.intro (fun c => ?_) (fun c => ?_)
        · have c : rch T S b w (farf T g b) < farf T g b := c
          rw [if_pos c] at hK; exact hK
        · have c : ¬ rch T S b w (farf T g b) < farf T g b := c
          rw [if_neg c] at hK; exact hK
-- a rap
def earf (T : aT) (S : aS) (h w : Nat) (dr : Bool) (k : Nat) : Int32 := T.2.1 3 (6 * h + k) + lgr dr (shk T S h w) (S 10 0) k
def aRap (T : aT) (S : aS) (r h w : Nat) (dr : Bool) : aS := fun f i =>
  if f = 8 ∧ 6 * r ≤ i ∧ i < 6 * r + 6 then earf T S h w dr (i - 6 * r)
  else if f = 5 ∧ i = r then (match whof T S w (earf T S h w dr) with
    | none => 2
    | some _ => 1)
  else if f = 6 ∧ i = r then (match whof T S w (earf T S h w dr) with
    | none => -1
    | some b => nI b)
  else if f = 1 ∧ i = h then S 1 h + 1
  else if f = 10 ∧ i = 0 then nks dr (shk T S h w) (S 10 0) 6
  else S f i
theorem whof_num {T : aT} {S : aS} {v : Int32} {w : Nat} {g : Nat → Int32} : whof T (su S 10 0 v) w g = whof T S w g := by
  unfold whof
  simp only [rch_num]
theorem whof_congr {T : aT} {S : aS} {w : Nat} {g g' : Nat → Int32} (h : ∀ k, k < 6 → g k = g' k) : whof T S w g = whof T S w g' := by
  have e : farf T g = farf T g' := by
    funext b
    exact apn_congr (fun k hk => by rw [h k hk])
  unfold whof
  rw [e]
theorem dgn_congr {f g : Nat → Int32} {n : Nat} (h : ∀ k, k < n → f k = g k) : dgn f n = dgn g n := by
  induction n with
  | zero => rfl
  | succ n ih =>
    show dgn f n * 10 + _ = dgn g n * 10 + _
    rw [ih (fun k hk => h k (by omega)), h n (by omega)]

theorem p_rapOnce {K : zQ} {I : zI} {L : zJ} {P : zP} {j t : Nat} {T : aT} {S : aS} {r h w : Nat} {dI : Int32} {dr : Bool} (hdr : (dI = 0 ∧ dr = false) ∨ (¬ dI = 0 ∧ dr = true)) (ht : P 8 j 0 = t) (hT : CT I t T) (hS : CS I j T S) (hr : r < T.1 2) (hh : h < T.1 0) (hw : w < T.1 1) (eh : T.2.1 8 r = nI h) (ew : S 3 r = nI w)
    (hK : ∀ (I' : zI) (L' : zJ), zeL2 L L' → (∀ a b c, ¬ ((Nat.ble 31 a && Nat.ble a 41) = true ∧ b = j) → ¬ (a = 8 ∧ b = j) → I' a b c = I a b c) → CS I' j T (aRap T S r h w dr) → K [] (I', L', P)) : mX8_rapOnce K [.inr (.inr (8, j)), .inl (nI r), .inl dI] (I, L, P) := by
  have r10 := hT.r10
  have h6 := hT.h6
  have zr : zin (nI r) 10 := n_zin (by omega) (by decide)
  have hp : P 8 j 0 < 2 := by rw [ht]; exact hT.1
  show bX8_rapOnce_0 K [some (.inr (.inr (8,j))), some (.inl (nI r)), some (.inl dI), none, none] [] (I, L, P)
  unfold bX8_rapOnce_0
  dsimp only [x_int, x_lng, x_ild, x_lld, x_ald, x_ist, x_ast, x_lst, x_inc, x_ii, x_id, x_i, x_ll, x_ld, x_l, x_cmp, x_i2l, x_l2i, x_if, x_ic, x_dup, x_pop, x_dup2, x_gI, x_gL, x_gR, x_g1, x_g0, x_gP, x_pI, x_pZ, x_pL, x_pP, x_al, x_as, x_all, x_asl, x_alr, x_len, x_cpy, x_m2, x_m1, x_m2l, x_m1l, x_call, x_cv, x_ri, x_rz, x_rl, x_rv, zg, zset, zbef, zlong, zcat, cond_true, cond_false, List.take, List.drop, rv1, rv2, rv3, rv4, rv5, rv6, rv7, sm0, sm1, bl0, bl1, bl2, bl3, bl4, bl5, bl6, bl7, bl8, List.nil_append, List.cons_append, List.length_cons, List.length_nil, Nat.reduceBEq, Nat.reduceAdd, Nat.reduceSub, ta, tb, tn0, tn1, tn2, tn3, tn4, tn5, tn6, tn7, tn8, tn9, tn10, tn11, tn12, zk_36, zl_36]
  rw [ht, n_cl (n := r) (by omega), (hT.rap hr).1, (hS.2.2.1 r hr).1, eh, ew]
  refine ⟨hT.1, zr, zr, p_listen hdr ht hT hS hh hw (fun I1 L1 hL1 hI1 hear hnum => ?_)⟩
  have hT1 : CT I1 t T := hT.fr (fun a b c q => hI1 a b c (fun e => by rw [e.1] at q; exact absurd q (by decide)) (fun e => by rw [e.1] at q; exact absurd q (by decide)))
  have hS1 : CS I1 j T (su S 10 0 (nks dr (shk T S h w) (S 10 0) 6)) := hS.num (fun a c q q2 => hI1 a j c (fun e => by rw [e.1] at q; exact absurd (show false = true from q) (by decide)) (fun e => q2 ⟨e.1, e.2.2⟩)) hnum
  dsimp only [x_int, x_lng, x_ild, x_lld, x_ald, x_ist, x_ast, x_lst, x_inc, x_ii, x_id, x_i, x_ll, x_ld, x_l, x_cmp, x_i2l, x_l2i, x_if, x_ic, x_dup, x_pop, x_dup2, x_gI, x_gL, x_gR, x_g1, x_g0, x_gP, x_pI, x_pZ, x_pL, x_pP, x_al, x_as, x_all, x_asl, x_alr, x_len, x_cpy, x_m2, x_m1, x_m2l, x_m1l, x_call, x_cv, x_ri, x_rz, x_rl, x_rv, zg, zset, zbef, zlong, zcat, cond_true, cond_false, List.take, List.drop, rv1, rv2, rv3, rv4, rv5, rv6, rv7, sm0, sm1, bl0, bl1, bl2, bl3, bl4, bl5, bl6, bl7, bl8, List.nil_append, List.cons_append, List.length_cons, List.length_nil, Nat.reduceBEq, Nat.reduceAdd, Nat.reduceSub, ta, tb, tn0, tn1, tn2, tn3, tn4, tn5, tn6, tn7, tn8, tn9, tn10, tn11, tn12, zk_36, zl_36]
  try rw [n_cl (n := r) (by omega)]
  rw [(hS1.2.2.1 r hr).1, show su S 10 0 (nks dr (shk T S h w) (S 10 0) 6) 3 r = S 3 r from rfl, ew]
  refine ⟨zr, p_whoKnocks (g := earf T S h w dr) ht hT1 hS1 hw rfl rfl hear (fun L2 hL2 => ?_)⟩
  rw [whof_num]
  dsimp only [x_int, x_lng, x_ild, x_lld, x_ald, x_ist, x_ast, x_lst, x_inc, x_ii, x_id, x_i, x_ll, x_ld, x_l, x_cmp, x_i2l, x_l2i, x_if, x_ic, x_dup, x_pop, x_dup2, x_gI, x_gL, x_gR, x_g1, x_g0, x_gP, x_pI, x_pZ, x_pL, x_pP, x_al, x_as, x_all, x_asl, x_alr, x_len, x_cpy, x_m2, x_m1, x_m2l, x_m1l, x_call, x_cv, x_ri, x_rz, x_rl, x_rv, zg, zset, zbef, zlong, zcat, cond_true, cond_false, List.take, List.drop, rv1, rv2, rv3, rv4, rv5, rv6, rv7, sm0, sm1, bl0, bl1, bl2, bl3, bl4, bl5, bl6, bl7, bl8, List.nil_append, List.cons_append, List.length_cons, List.length_nil, Nat.reduceBEq, Nat.reduceAdd, Nat.reduceSub, ta, tb, tn0, tn1, tn2, tn3, tn4, tn5, tn6, tn7, tn8, tn9, tn10, tn11, tn12]
  refine p_digitsOf rfl rfl ?_
  dsimp only [x_int, x_lng, x_ild, x_lld, x_ald, x_ist, x_ast, x_lst, x_inc, x_ii, x_id, x_i, x_ll, x_ld, x_l, x_cmp, x_i2l, x_l2i, x_if, x_ic, x_dup, x_pop, x_dup2, x_gI, x_gL, x_gR, x_g1, x_g0, x_gP, x_pI, x_pZ, x_pL, x_pP, x_al, x_as, x_all, x_asl, x_alr, x_len, x_cpy, x_m2, x_m1, x_m2l, x_m1l, x_call, x_cv, x_ri, x_rz, x_rl, x_rv, zg, zset, zbef, zlong, zcat, cond_true, cond_false, List.take, List.drop, rv1, rv2, rv3, rv4, rv5, rv6, rv7, sm0, sm1, bl0, bl1, bl2, bl3, bl4, bl5, bl6, bl7, bl8, List.nil_append, List.cons_append, List.length_cons, List.length_nil, Nat.reduceBEq, Nat.reduceAdd, Nat.reduceSub, ta, tb, tn0, tn1, tn2, tn3, tn4, tn5, tn6, tn7, tn8, tn9, tn10, tn11, tn12, zk_40, zl_40, zk_38, zl_38]
  have hdg : dgn (I1 41 j) 6 = dgn (earf T S h w dr) 6 := dgn_congr hear
  rw [hdg]
  have fin : ∀ (s5 s6 : Int32), s5 = (match whof T S w (earf T S h w dr) with
      | none => 2
      | some _ => 1) → s6 = (match whof T S w (earf T S h w dr) with
      | none => -1
      | some b => nI b) → K [] (zsI (zsI (zsI (zsI (I1, L2, P) 40 j r (dgn (earf T S h w dr) 6)) 38 j r s5) 39 j r s6) 33 j h (S 1 h + 1)) := by
    intro s5 s6 e5 e6
    have hI9 : ∀ a b c, (zsI (zsI (zsI (zsI (I1, L2, P) 40 j r (dgn (earf T S h w dr) 6)) 38 j r s5) 39 j r s6) 33 j h (S 1 h + 1)).1 a b c = (if a = 33 ∧ b = j ∧ c = h then S 1 h + 1 else if a = 39 ∧ b = j ∧ c = r then s6 else if a = 38 ∧ b = j ∧ c = r then s5 else if a = 40 ∧ b = j ∧ c = r then dgn (earf T S h w dr) 6 else I1 a b c) := fun _ _ _ => rfl
    refine hK (zsI (zsI (zsI (zsI (I1, L2, P) 40 j r (dgn (earf T S h w dr) 6)) 38 j r s5) 39 j r s6) 33 j h (S 1 h + 1)).1 L2 (fun a b c q1 q2 => (hL2 a b c q1 q2).trans (hL1 a b c q1 q2)) (fun a b c q1 q2 => ?_) ?_
    · have n1 : ∀ k, (Nat.ble 31 k && Nat.ble k 41) = true → ¬ (a = k ∧ b = j) := fun k hk e => q1 ⟨by rw [e.1]; exact hk, e.2⟩
      rw [hI9, if_neg (fun e => n1 33 rfl ⟨e.1, e.2.1⟩), if_neg (fun e => n1 39 rfl ⟨e.1, e.2.1⟩), if_neg (fun e => n1 38 rfl ⟨e.1, e.2.1⟩), if_neg (fun e => n1 40 rfl ⟨e.1, e.2.1⟩)]
      exact hI1 a b c (n1 41 rfl) (fun e => q2 ⟨e.1, e.2.1⟩)
    · obtain ⟨a1, a2, a3, a4, a5, a6, a7, a8⟩ := hS1
      have g : ∀ f i, ¬ f = 8 → ¬ f = 5 → ¬ f = 6 → ¬ f = 1 → ¬ f = 10 → aRap T S r h w dr f i = su S 10 0 (nks dr (shk T S h w) (S 10 0) 6) f i := fun f i q8 q5 q6 q1 q10 => by
        simp [aRap, su, q8, q5, q6, q1, q10]
      have g7 : aRap T S r h w dr 7 = su S 10 0 (nks dr (shk T S h w) (S 10 0) 6) 7 := by funext i; exact g 7 i (by decide) (by decide) (by decide) (by decide) (by decide)
      refine ⟨fun x hx => ?_, fun x hx => ?_, fun x hx => ?_, ?_, ?_, ?_, ?_, ?_⟩
      · obtain ⟨b1, b2, b3⟩ := a1 x hx
        refine ⟨?_, ?_, ?_⟩
        · rw [hI9, g 0 x (by decide) (by decide) (by decide) (by decide) (by decide)]
          simpa using b1
        · rw [hI9]
          by_cases e : x = h
          · subst e; simp [aRap]
          · simp only [aRap, e]
            simpa [su] using b2
        · rw [hI9, g 11 x (by decide) (by decide) (by decide) (by decide) (by decide)]
          simpa using b3
      · rw [hI9, hI9, g 12 x (by decide) (by decide) (by decide) (by decide) (by decide), g 2 x (by decide) (by decide) (by decide) (by decide) (by decide)]
        simpa using a2 x hx
      · obtain ⟨b1, b2, b3, b4, b5⟩ := a3 x hx
        refine ⟨?_, ?_, ?_, ?_, ?_⟩
        · rw [hI9, g 3 x (by decide) (by decide) (by decide) (by decide) (by decide)]
          simpa using b1
        · rw [hI9, g 4 x (by decide) (by decide) (by decide) (by decide) (by decide)]
          simpa using b2
        · rw [hI9]
          by_cases e : x = r
          · subst e
            simp only [aRap]
            simp [e5]
          · simp only [aRap, e]
            simpa [su] using b3
        · rw [hI9]
          by_cases e : x = r
          · subst e
            simp only [aRap]
            simp [e6]
          · simp only [aRap, e]
            simpa [su] using b4
        · rw [hI9]
          by_cases e : x = r
          · subst e
            have : dgt (aRap T S x h w dr 8) x = dgn (earf T S h w dr) 6 := dgn_congr (fun k hk => by
              unfold aRap
              rw [if_pos ⟨rfl, by omega, by omega⟩]
              congr 1; omega)
            rw [this]
            simp
          · have : dgt (aRap T S r h w dr 8) x = dgt (su S 10 0 (nks dr (shk T S h w) (S 10 0) 6) 8) x := dgn_congr (fun k hk => by
              simp only [aRap]
              rw [if_neg (by omega)]
              simp [su])
            rw [this]
            simpa [e] using b5
      · rw [hI9, g 9 0 (by decide) (by decide) (by decide) (by decide) (by decide)]; simpa using a4
      · rw [hI9]
        simp [aRap]
        simpa [su] using a5
      · rw [hI9, g 13 0 (by decide) (by decide) (by decide) (by decide) (by decide)]; simpa using a6
      · rw [hI9, g 14 0 (by decide) (by decide) (by decide) (by decide) (by decide)]; simpa using a7
      · rw [hI9, g7]; simpa using a8
  have zh : zin (nI h) 6 := n_zin (by omega) (by decide)
  have rd : ∀ s5 s6 : Int32, (zsI (zsI (zsI (I1, L2, P) 40 j r (dgn (earf T S h w dr) 6)) 38 j r s5) 39 j r s6).1 33 j h = S 1 h := fun s5 s6 => by
    have := (hS1.1 h hh).2.1
    simpa [zsI, su] using this
  dsimp only [bX8_rapOnce_69, bX8_rapOnce_86, x_int, x_lng, x_ild, x_lld, x_ald, x_ist, x_ast, x_lst, x_inc, x_ii, x_id, x_i, x_ll, x_ld, x_l, x_cmp, x_i2l, x_l2i, x_if, x_ic, x_dup, x_pop, x_dup2, x_gI, x_gL, x_gR, x_g1, x_g0, x_gP, x_pI, x_pZ, x_pL, x_pP, x_al, x_as, x_all, x_asl, x_alr, x_len, x_cpy, x_m2, x_m1, x_m2l, x_m1l, x_call, x_cv, x_ri, x_rz, x_rl, x_rv, zg, zset, zbef, zlong, zcat, cond_true, cond_false, List.take, List.drop, rv1, rv2, rv3, rv4, rv5, rv6, rv7, sm0, sm1, bl0, bl1, bl2, bl3, bl4, bl5, bl6, bl7, bl8, List.nil_append, List.cons_append, List.length_cons, List.length_nil, Nat.reduceBEq, Nat.reduceAdd, Nat.reduceSub, ta, tb, tn0, tn1, tn2, tn3, tn4, tn5, tn6, tn7, tn8, tn9, tn10, tn11, tn12, zk_38, zl_38, zk_39, zl_39, zk_33, zl_33]
  rw [n_cl (n := r) (by omega), n_cl (n := h) (by omega)]
  cases e : whof T S w (earf T S h w dr) with
  | none =>
    rw [e] at fin
    refine ⟨zr, fun _ => ⟨zr, fun _ => ⟨zr, zh, zh, ?_⟩, fun c => absurd (show (-2 : Int32) < 0 by decide) c⟩, fun c => absurd (show (-2 : Int32) < 0 by decide) c⟩
    rw [rd]
    exact fin 2 (-1) rfl rfl
  | some b =>
    rw [e] at fin
    have hb := whof_lt e
    have nb : ¬ nI b < 0 := fun c => by
      have c : nI b < nI 0 := c
      rw [n_lt (by omega) (by omega)] at c
      omega
    refine ⟨zr, fun c => absurd c nb, fun _ => ⟨zr, fun c => absurd c nb, fun _ => ⟨zr, zh, zh, ?_⟩⟩⟩
    rw [rd]
    exact fin 1 (nI b) rfl rfl
