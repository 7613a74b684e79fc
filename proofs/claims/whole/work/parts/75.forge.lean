-- by how few beats one is taken for another one
theorem zc_yes {p : Nat → Bool} {i : Nat} (h : p i = true) : nI (zcount p i) + 1 = nI (zcount p (i + 1)) := by
  show _ = nI (zcount p i + if p i = true then 1 else 0)
  rw [if_pos h, n_succ]
theorem zc_no {p : Nat → Bool} {i : Nat} (h : p i = false) : nI (zcount p i) + 0 = nI (zcount p (i + 1)) := by
  show _ = nI (zcount p i + if p i = true then 1 else 0)
  rw [if_neg (by rw [h]; decide), Int32.add_zero]; rfl
theorem bof : ∀ k, k < 3 → ∀ i, i < 128 → ((nI i >>> ((4 - 2 * nI k) &&& 31)) &&& 3) + 1 = beH i k := by decide +kernel
theorem p_beatOfHalf {K : zQ} {M : zM} {i k : Nat} (hi : i < 128) (hk : k < 3) (hK : K [.inl (beH i k)] M) : mX1_beatOfHalf K [.inl (nI i), .inl (nI k)] M := by
  show bX1_beatOfHalf_0 K [some (.inl (nI i)), some (.inl (nI k))] [] M
  unfold bX1_beatOfHalf_0
  dsimp only [x_int, x_lng, x_ild, x_lld, x_ald, x_ist, x_ast, x_lst, x_inc, x_ii, x_id, x_i, x_ll, x_ld, x_l, x_cmp, x_i2l, x_l2i, x_if, x_ic, x_dup, x_pop, x_dup2, x_gI, x_gL, x_gR, x_g1, x_g0, x_gP, x_pI, x_pZ, x_pL, x_pP, x_al, x_as, x_all, x_asl, x_alr, x_len, x_cpy, x_m2, x_m1, x_m2l, x_m1l, x_call, x_cv, x_ri, x_rz, x_rl, x_rv, zg, zset, zbef, zlong, zcat, cond_true, cond_false, List.take, List.drop, rv1, rv2, rv3, rv4, rv5, rv6, rv7, sm0, sm1, bl0, bl1, bl2, bl3, bl4, bl5, bl6, bl7, bl8, List.nil_append, List.cons_append, List.length_cons, List.length_nil, Nat.reduceBEq, Nat.reduceAdd, Nat.reduceSub, ta, tb, tn0, tn1, tn2, tn3, tn4, tn5, tn6, tn7, tn8, tn9, tn10, tn11, tn12]
  rw [bof k hk i hi]
  exact hK
def chp (T : aT) (h i f : Nat) : Nat → Bool := fun k => decide (¬ T.2.1 3 (6 * h + (f + k)) = beH i k)
def chv (T : aT) (h i : Nat) : Nat := zcount (chp T h i (if i < 64 then 0 else 3)) 3
def chq (T : aT) (h c : Nat) : Nat → Bool := fun k => decide (¬ codK c k = T.2.1 3 (6 * h + k))
def chg (T : aT) (h c : Nat) : Nat := zcount (chq T h c) 6
theorem beH_hi {c k : Nat} (hk : k < 3) : beH (c / 64) k = codK c k := by
  unfold beH codK
  rw [Nat.div_div_eq_div_mul]
  have : 64 * 4 ^ (2 - k) = 4 ^ (5 - k) := by
    have : k = 0 ∨ k = 1 ∨ k = 2 := by omega
    rcases this with rfl | rfl | rfl <;> decide
  rw [this]
theorem beH_lo {c k : Nat} (hk : k < 3) : beH (64 + c % 64) k = codK c (3 + k) := by
  unfold beH codK
  have : k = 0 ∨ k = 1 ∨ k = 2 := by omega
  rcases this with rfl | rfl | rfl
  · rw [show (64 + c % 64) / 4 ^ (2 - 0) % 4 = c / 4 ^ (5 - (3 + 0)) % 4 by simp; omega]
  · rw [show (64 + c % 64) / 4 ^ (2 - 1) % 4 = c / 4 ^ (5 - (3 + 1)) % 4 by simp; omega]
  · rw [show (64 + c % 64) / 4 ^ (2 - 2) % 4 = c / 4 ^ (5 - (3 + 2)) % 4 by simp; omega]
theorem zcount_6 (p : Nat → Bool) : zcount p 6 = zcount p 3 + zcount (fun k => p (3 + k)) 3 := by
  simp only [zcount, Nat.zero_add, Nat.add_assoc]
theorem chg_sp {T : aT} {h c : Nat} (hc : c < 4096) : chv T h (c / 64) + chv T h (64 + c % 64) = chg T h c := by
  unfold chg chv
  rw [zcount_6, if_pos (by omega), if_neg (by omega)]
  congr 1
  · refine zcount_congr (fun k hk => ?_)
    unfold chp chq
    rw [beH_hi hk, Nat.zero_add]
    exact decide_eq_decide.mpr ⟨fun a b => a b.symm, fun a b => a b.symm⟩
  · refine zcount_congr (fun k hk => ?_)
    unfold chp chq
    rw [beH_lo hk]
    exact decide_eq_decide.mpr ⟨fun a b => a b.symm, fun a b => a b.symm⟩
theorem p_countChanges {K : zQ} {I : zI} {L : zJ} {P : zP} {T : aT} {x h : Nat} (hb : ∀ k, k < 6 → I 14 x k = T.2.1 3 (6 * h + k)) (hK : ∀ I' : zI, fr1 49 I I' → (∀ i, i < 128 → I' 49 0 i = nI (chv T h i)) → K [] (I', L, P)) : mX1_countChanges K [.inr (.inr (1, x)), .inr (.inr (49, 0))] (I, L, P) := by
  show bX1_countChanges_2 K [some (.inr (.inr (1, x))), some (.inr (.inr (49, 0))), some (.inl 0), none, none, none] [] (I, L, P)
  refine zinv 128 (fun i Z M => ∃ (I' : zI) (z3 z4 z5 : Option zV), Z = [some (.inr (.inr (1, x))), some (.inr (.inr (49, 0))), some (.inl (nI i)), z3, z4, z5] ∧ M = (I', L, P) ∧ fr1 49 I I' ∧ ∀ j, j < i → I' 49 0 j = nI (chv T h j)) ?_ ?_ ⟨I, none, none, none, rfl, rfl, fun _ _ _ _ => rfl, fun j hj => by omega⟩
  · rintro i Z M hi ⟨I', z3, z4, z5, rfl, rfl, hI, hd⟩ self hself
    have inner : ∀ f : Nat, f = (if i < 64 then 0 else 3) → bX1_countChanges_27 K self [some (.inr (.inr (1, x))), some (.inr (.inr (49, 0))), some (.inl (nI i)), some (.inl (nI f)), some (.inl 0), some (.inl 0)] [] (I', L, P) := fun f hf => by
      have f3 : f ≤ 3 := by rw [hf]; split <;> omega
      refine zinv 3 (fun k Z M => Z = [some (.inr (.inr (1, x))), some (.inr (.inr (49, 0))), some (.inl (nI i)), some (.inl (nI f)), some (.inl (nI (zcount (chp T h i f) k))), some (.inl (nI k))] ∧ M = (I', L, P)) ?_ ?_ ⟨rfl, rfl⟩
      · rintro k Z M hk ⟨rfl, rfl⟩ self2 hself2
        dsimp only [x_int, x_lng, x_ild, x_lld, x_ald, x_ist, x_ast, x_lst, x_inc, x_ii, x_id, x_i, x_ll, x_ld, x_l, x_cmp, x_i2l, x_l2i, x_if, x_ic, x_dup, x_pop, x_dup2, x_gI, x_gL, x_gR, x_g1, x_g0, x_gP, x_pI, x_pZ, x_pL, x_pP, x_al, x_as, x_all, x_asl, x_alr, x_len, x_cpy, x_m2, x_m1, x_m2l, x_m1l, x_call, x_cv, x_ri, x_rz, x_rl, x_rv, zg, zset, zbef, zlong, zcat, cond_true, cond_false, List.take, List.drop, rv1, rv2, rv3, rv4, rv5, rv6, rv7, sm0, sm1, bl0, bl1, bl2, bl3, bl4, bl5, bl6, bl7, bl8, List.nil_append, List.cons_append, List.length_cons, List.length_nil, Nat.reduceBEq, Nat.reduceAdd, Nat.reduceSub, ta, tb, tn0, tn1, tn2, tn3, tn4, tn5, tn6, tn7, tn8, tn9, tn10, tn11, tn12, zk_14, zl_14, bX1_countChanges_58]
        rw [n_add, n_cl (n := f + k) (by omega), hI 14 x _ (by omega), hb _ (by omega)]
        refine ⟨fun q => absurd q (lt_go (n := 3) rfl (by omega) hk), fun _ => ⟨n_zin (by omega) (by decide), p_beatOfHalf hi hk ?_⟩⟩
        dsimp only [x_int, x_lng, x_ild, x_lld, x_ald, x_ist, x_ast, x_lst, x_inc, x_ii, x_id, x_i, x_ll, x_ld, x_l, x_cmp, x_i2l, x_l2i, x_if, x_ic, x_dup, x_pop, x_dup2, x_gI, x_gL, x_gR, x_g1, x_g0, x_gP, x_pI, x_pZ, x_pL, x_pP, x_al, x_as, x_all, x_asl, x_alr, x_len, x_cpy, x_m2, x_m1, x_m2l, x_m1l, x_call, x_cv, x_ri, x_rz, x_rl, x_rv, zg, zset, zbef, zlong, zcat, cond_true, cond_false, List.take, List.drop, rv1, rv2, rv3, rv4, rv5, rv6, rv7, sm0, sm1, bl0, bl1, bl2, bl3, bl4, bl5, bl6, bl7, bl8, List.nil_append, List.cons_append, List.length_cons, List.length_nil, Nat.reduceBEq, Nat.reduceAdd, Nat.reduceSub, ta, tb, tn0, tn1, tn2, tn3, tn4, tn5, tn6, tn7, tn8, tn9, tn10, tn11, tn12, bX1_countChanges_58]
        rw [n_succ k]
        refine ⟨fun c => ?_, fun c => ?_⟩
        · rw [zc_no (p := chp T h i f) (i := k) (decide_eq_false (fun q => q c))]
          exact hself2 _ _ ⟨rfl, rfl⟩
        · rw [zc_yes (p := chp T h i f) (i := k) (decide_eq_true c)]
          exact hself2 _ _ ⟨rfl, rfl⟩
      · rintro Z M ⟨rfl, rfl⟩ self2
        dsimp only [x_int, x_lng, x_ild, x_lld, x_ald, x_ist, x_ast, x_lst, x_inc, x_ii, x_id, x_i, x_ll, x_ld, x_l, x_cmp, x_i2l, x_l2i, x_if, x_ic, x_dup, x_pop, x_dup2, x_gI, x_gL, x_gR, x_g1, x_g0, x_gP, x_pI, x_pZ, x_pL, x_pP, x_al, x_as, x_all, x_asl, x_alr, x_len, x_cpy, x_m2, x_m1, x_m2l, x_m1l, x_call, x_cv, x_ri, x_rz, x_rl, x_rv, zg, zset, zbef, zlong, zcat, cond_true, cond_false, List.take, List.drop, rv1, rv2, rv3, rv4, rv5, rv6, rv7, sm0, sm1, bl0, bl1, bl2, bl3, bl4, bl5, bl6, bl7, bl8, List.nil_append, List.cons_append, List.length_cons, List.length_nil, Nat.reduceBEq, Nat.reduceAdd, Nat.reduceSub, ta, tb, tn0, tn1, tn2, tn3, tn4, tn5, tn6, tn7, tn8, tn9, tn10, tn11, tn12, zk_49, zl_49]
        rw [n_cl (n := i) (by omega), n_succ i]
        obtain ⟨I2, e2, w2, f2⟩ := zsI_ex I' L P 49 0 i (nI (zcount (chp T h i f) 3))
        rw [e2]
        refine ⟨fun _ => ⟨n_zin hi (by decide), hself _ _ ⟨I2, _, _, _, rfl, rfl, fun a b c q => ?_, fun j hj => ?_⟩⟩, fun q => absurd q (lt_out (n := 3) rfl)⟩
        · exact (f2 a b c (fun e => q ⟨e.1, e.2.1⟩)).trans (hI a b c q)
        · by_cases e : j = i
          · subst e; rw [w2, hf]; rfl
          · exact (f2 49 0 j (fun z => e z.2.2)).trans (hd j (by omega))
    dsimp only [x_int, x_lng, x_ild, x_lld, x_ald, x_ist, x_ast, x_lst, x_inc, x_ii, x_id, x_i, x_ll, x_ld, x_l, x_cmp, x_i2l, x_l2i, x_if, x_ic, x_dup, x_pop, x_dup2, x_gI, x_gL, x_gR, x_g1, x_g0, x_gP, x_pI, x_pZ, x_pL, x_pP, x_al, x_as, x_all, x_asl, x_alr, x_len, x_cpy, x_m2, x_m1, x_m2l, x_m1l, x_call, x_cv, x_ri, x_rz, x_rl, x_rv, zg, zset, zbef, zlong, zcat, cond_true, cond_false, List.take, List.drop, rv1, rv2, rv3, rv4, rv5, rv6, rv7, sm0, sm1, bl0, bl1, bl2, bl3, bl4, bl5, bl6, bl7, bl8, List.nil_append, List.cons_append, List.length_cons, List.length_nil, Nat.reduceBEq, Nat.reduceAdd, Nat.reduceSub, ta, tb, tn0, tn1, tn2, tn3, tn4, tn5, tn6, tn7, tn8, tn9, tn10, tn11, tn12, bX1_countChanges_20]
    refine ⟨fun q => absurd q (lt_go (n := 128) rfl (by omega) hi), fun _ => ⟨fun c => ?_, fun c => ?_⟩⟩
    · have c : nI 64 ≤ nI i := c
      rw [n_le (by omega) (by omega)] at c
      exact inner 3 (by rw [if_neg (by omega)])
    · have c : ¬ nI 64 ≤ nI i := c
      rw [n_le (by omega) (by omega)] at c
      exact inner 0 (by rw [if_pos (by omega)])
  · rintro Z M ⟨I', z3, z4, z5, rfl, rfl, hI, hd⟩ self
    dsimp only [x_int, x_lng, x_ild, x_lld, x_ald, x_ist, x_ast, x_lst, x_inc, x_ii, x_id, x_i, x_ll, x_ld, x_l, x_cmp, x_i2l, x_l2i, x_if, x_ic, x_dup, x_pop, x_dup2, x_gI, x_gL, x_gR, x_g1, x_g0, x_gP, x_pI, x_pZ, x_pL, x_pP, x_al, x_as, x_all, x_asl, x_alr, x_len, x_cpy, x_m2, x_m1, x_m2l, x_m1l, x_call, x_cv, x_ri, x_rz, x_rl, x_rv, zg, zset, zbef, zlong, zcat, cond_true, cond_false, List.take, List.drop, rv1, rv2, rv3, rv4, rv5, rv6, rv7, sm0, sm1, bl0, bl1, bl2, bl3, bl4, bl5, bl6, bl7, bl8, List.nil_append, List.cons_append, List.length_cons, List.length_nil, Nat.reduceBEq, Nat.reduceAdd, Nat.reduceSub, ta, tb, tn0, tn1, tn2, tn3, tn4, tn5, tn6, tn7, tn8, tn9, tn10, tn11, tn12]
    exact ⟨fun _ => hK I' hI hd, fun q => absurd q (lt_out (n := 128) rfl)⟩
theorem wb_spec {far : Nat → Int32} : ∀ {n : Nat}, (∀ i, i < n → ¬ 2147483647 ≤ far i) → (0 < n → ∃ b, wb far n = some b) ∧ ∀ b, wb far n = some b → b < n ∧ ∀ r, r < n → far b ≤ far r ∧ (r < b → far b < far r) := by
  intro n
  induction n with
  | zero => intro _; exact ⟨fun h => by omega, fun b e => by cases e⟩
  | succ n ih =>
    intro h
    obtain ⟨h1, h2⟩ := ih (fun i hi => h i (by omega))
    rw [wb_succ]
    by_cases n0 : n = 0
    · subst n0
      rw [if_neg (show ¬ wbL far (wb far 0) ≤ far 0 from h 0 (by omega))]
      refine ⟨fun _ => ⟨0, rfl⟩, fun b e => ?_⟩
      cases e
      refine ⟨by omega, fun r hr => ?_⟩
      have : r = 0 := by omega
      subst this
      exact ⟨Int32.le_refl _, fun q => by omega⟩
    · obtain ⟨b, e⟩ := h1 (by omega)
      obtain ⟨g1, g2⟩ := h2 b e
      rw [e]
      by_cases c : far b ≤ far n
      · rw [if_pos (show wbL far (some b) ≤ far n from c)]
        refine ⟨fun _ => ⟨b, rfl⟩, fun b' e' => ?_⟩
        cases e'
        refine ⟨by omega, fun r hr => ?_⟩
        by_cases q : r = n
        · subst q; exact ⟨c, fun z => by omega⟩
        · exact g2 r (by omega)
      · rw [if_neg (show ¬ wbL far (some b) ≤ far n from c)]
        refine ⟨fun _ => ⟨n, rfl⟩, fun b' e' => ?_⟩
        cases e'
        have c := Int32.not_le.mp c
        refine ⟨by omega, fun r hr => ?_⟩
        by_cases q : r = n
        · subst q; exact ⟨Int32.le_refl _, fun z => by omega⟩
        · have := Int32.lt_of_lt_of_le c (g2 r (by omega)).1
          exact ⟨Int32.le_of_lt this, fun _ => this⟩
abbrev frst (far : Nat → Int32) (o i : Nat) : Prop := ∀ r, r < i → ¬ far r < far o ∧ ¬ (far r = far o ∧ r < o)
theorem wb_iff {far : Nat → Int32} {n o : Nat} (h : ∀ i, i < n → ¬ 2147483647 ≤ far i) (ho : o < n) : wb far n = some o ↔ frst far o n := by
  obtain ⟨h1, h2⟩ := wb_spec h
  constructor
  · intro e r hr
    obtain ⟨-, g⟩ := h2 o e
    obtain ⟨g1, g2⟩ := g r hr
    exact ⟨Int32.not_lt.mpr g1, fun q => Int32.lt_irrefl (a := far o) (by have := g2 q.2; rw [q.1] at this; exact this)⟩
  · intro q
    obtain ⟨b, e⟩ := h1 (by omega)
    obtain ⟨hb, g⟩ := h2 b e
    rw [e]
    have l1 := (g o ho).1
    have l2 := Int32.not_lt.mp (q b hb).1
    have eq := Int32.le_antisymm l1 l2
    by_cases x : b = o
    · rw [x]
    · by_cases y : b < o
      · exact absurd ⟨eq, y⟩ (q b hb).2
      · have := (g o ho).2 (by omega)
        rw [eq] at this
        exact absurd this (Int32.lt_irrefl)
theorem whof_iff {T : aT} {S : aS} {w o : Nat} {g : Nat → Int32} (wT : WT T) (hg : gSm g) (ho : o < T.1 0) : whof T S w g = some o ↔ frst (farf T g) o (T.1 0) ∧ ¬ rch T S o w (farf T g o) < farf T g o := by
  have fmax : ∀ n, n < T.1 0 → ¬ 2147483647 ≤ farf T g n := fun n hn q => by
    obtain ⟨m, h1, h2⟩ := farf_small wT hg hn
    rw [h2, show (2147483647 : Int32) = nI 2147483647 from rfl, n_le (by omega) (by omega)] at q
    omega
  rw [← wb_iff fmax ho]
  unfold whof
  cases e : wb (farf T g) (T.1 0) with
  | none => exact ⟨fun q => (by cases q), fun q => absurd q.1 (fun z => by cases z)⟩
  | some b =>
    dsimp only
    constructor
    · intro q
      split at q
      · cases q
      · rename_i h9
        cases q
        exact ⟨rfl, h9⟩
    · rintro ⟨q1, q2⟩
      cases q1
      rw [if_neg q2]
theorem p_isTakenFor {K : zQ} {I : zI} {L : zJ} {P : zP} {T : aT} {S : aS} {t o w c : Nat} (wT : WT T) (hT : CT I t T) (h11 : P 11 0 11 = t) (hg : ∀ h, h < T.1 0 → ∀ i, i < 128 → I 15 (6 * t + h) i = gapv T h i) (hw : ∀ f, f < 31 → I 50 0 f = if rch T S o w (nI f) < nI f then 0 else 1) (ho : o < T.1 0) (hc : c < 4096) (h1 : whof T S w (codK c) = some o → K [.inl 1] (I, L, P)) (h0 : ¬ whof T S w (codK c) = some o → K [.inl 0] (I, L, P)) : mX11_isTakenFor K [kbR, .inl (nI o), .inl (nI c)] (I, L, P) := by
  have h6 := hT.h6
  have iff := whof_iff (S := S) (w := w) wT (codK_sm c) ho
  rw [iff] at h0 h1
  obtain ⟨m, hm, em⟩ := farf_small wT (codK_sm c) ho
  show bX11_isTakenFor_0 K [some (.inr (.inr (11,0))), some (.inl (nI o)), some (.inl (nI c)), none, none, none] [] (I, L, P)
  unfold bX11_isTakenFor_0
  dsimp only [x_int, x_lng, x_ild, x_lld, x_ald, x_ist, x_ast, x_lst, x_inc, x_ii, x_id, x_i, x_ll, x_ld, x_l, x_cmp, x_i2l, x_l2i, x_if, x_ic, x_dup, x_pop, x_dup2, x_gI, x_gL, x_gR, x_g1, x_g0, x_gP, x_pI, x_pZ, x_pL, x_pP, x_al, x_as, x_all, x_asl, x_alr, x_len, x_cpy, x_m2, x_m1, x_m2l, x_m1l, x_call, x_cv, x_ri, x_rz, x_rl, x_rv, zg, zset, zbef, zlong, zcat, cond_true, cond_false, List.take, List.drop, rv1, rv2, rv3, rv4, rv5, rv6, rv7, sm0, sm1, bl0, bl1, bl2, bl3, bl4, bl5, bl6, bl7, bl8, List.nil_append, List.cons_append, List.length_cons, List.length_nil, Nat.reduceBEq, Nat.reduceAdd, Nat.reduceSub, ta, tb, tn0, tn1, tn2, tn3, tn4, tn5, tn6, tn7, tn8, tn9, tn10, tn11, tn12, zl_43]
  rw [h11, n_cl (n := o) (by omega)]
  refine ⟨hT.1, n_zin (by omega) (by decide), p_apartCode hc (hg o ho) ?_⟩
  dsimp only [x_int, x_lng, x_ild, x_lld, x_ald, x_ist, x_ast, x_lst, x_inc, x_ii, x_id, x_i, x_ll, x_ld, x_l, x_cmp, x_i2l, x_l2i, x_if, x_ic, x_dup, x_pop, x_dup2, x_gI, x_gL, x_gR, x_g1, x_g0, x_gP, x_pI, x_pZ, x_pL, x_pP, x_al, x_as, x_all, x_asl, x_alr, x_len, x_cpy, x_m2, x_m1, x_m2l, x_m1l, x_call, x_cv, x_ri, x_rz, x_rl, x_rv, zg, zset, zbef, zlong, zcat, cond_true, cond_false, List.take, List.drop, rv1, rv2, rv3, rv4, rv5, rv6, rv7, sm0, sm1, bl0, bl1, bl2, bl3, bl4, bl5, bl6, bl7, bl8, List.nil_append, List.cons_append, List.length_cons, List.length_nil, Nat.reduceBEq, Nat.reduceAdd, Nat.reduceSub, ta, tb, tn0, tn1, tn2, tn3, tn4, tn5, tn6, tn7, tn8, tn9, tn10, tn11, tn12, zl_50, bX11_isTakenFor_32]
  rw [em] at h0 h1 ⊢
  refine ⟨fun q => ⟨Or.inl rfl, h0 (fun z => z.2 ?_)⟩, fun q => ?_⟩
  · have q : nI 31 ≤ nI m := q
    have r : rch T S o w (nI m) ≤ 30 := (wi_rng (by decide)).2
    exact Int32.lt_of_le_of_lt r (Int32.lt_of_lt_of_le (show (30 : Int32) < nI 31 by decide) q)
  · have q : ¬ nI 31 ≤ nI m := q
    rw [n_le (by omega) (by omega)] at q
    refine ⟨n_zin (by omega) (by decide), ?_⟩
    rw [n_cl (n := m) (by omega), hw m (by omega)]
    by_cases r : rch T S o w (nI m) < nI m
    · rw [if_pos r]
      exact ⟨fun _ => ⟨Or.inl rfl, h0 (fun z => z.2 r)⟩, fun z => absurd rfl z⟩
    · rw [if_neg r]
      refine ⟨fun z => absurd z (by decide), fun _ => ?_⟩
      refine zinv (T.1 0) (fun i Z M => ∃ z5 : Option zV, Z = [some kbR, some (.inl (nI o)), some (.inl (nI c)), some (.inl (nI m)), some (.inl (nI i)), z5] ∧ M = (I, L, P) ∧ frst (farf T (codK c)) o i) ?_ ?_ ⟨none, rfl, rfl, fun r hr => by omega⟩
      · rintro i Z M hi ⟨z5, rfl, rfl, hf⟩ self hself
        have hout : ¬ (¬ farf T (codK c) i < nI m ∧ ¬ (farf T (codK c) i = nI m ∧ i < o)) → ¬ (frst (farf T (codK c)) o (T.1 0) ∧ ¬ rch T S o w (nI m) < nI m) := fun q z => q (by have := z.1 i hi; rw [em] at this; exact this)
        have hin : ¬ farf T (codK c) i < nI m → ¬ (farf T (codK c) i = nI m ∧ i < o) → frst (farf T (codK c)) o (i + 1) := fun q1 q2 r hr => by
          by_cases e : r = i
          · subst e; rw [em]; exact ⟨q1, q2⟩
          · exact hf r (by omega)
        dsimp only [x_int, x_lng, x_ild, x_lld, x_ald, x_ist, x_ast, x_lst, x_inc, x_ii, x_id, x_i, x_ll, x_ld, x_l, x_cmp, x_i2l, x_l2i, x_if, x_ic, x_dup, x_pop, x_dup2, x_gI, x_gL, x_gR, x_g1, x_g0, x_gP, x_pI, x_pZ, x_pL, x_pP, x_al, x_as, x_all, x_asl, x_alr, x_len, x_cpy, x_m2, x_m1, x_m2l, x_m1l, x_call, x_cv, x_ri, x_rz, x_rl, x_rv, zg, zset, zbef, zlong, zcat, cond_true, cond_false, List.take, List.drop, rv1, rv2, rv3, rv4, rv5, rv6, rv7, sm0, sm1, bl0, bl1, bl2, bl3, bl4, bl5, bl6, bl7, bl8, List.nil_append, List.cons_append, List.length_cons, List.length_nil, Nat.reduceBEq, Nat.reduceAdd, Nat.reduceSub, ta, tb, tn0, tn1, tn2, tn3, tn4, tn5, tn6, tn7, tn8, tn9, tn10, tn11, tn12, zl_43]
        rw [h11, n_cl (n := i) (by omega)]
        refine ⟨hT.1, fun q => absurd q (lt_go hT.2.1.1 (by omega) hi), fun _ => ⟨hT.1, n_zin (by omega) (by decide), p_apartCode hc (hg i hi) ?_⟩⟩
        dsimp only [x_int, x_lng, x_ild, x_lld, x_ald, x_ist, x_ast, x_lst, x_inc, x_ii, x_id, x_i, x_ll, x_ld, x_l, x_cmp, x_i2l, x_l2i, x_if, x_ic, x_dup, x_pop, x_dup2, x_gI, x_gL, x_gR, x_g1, x_g0, x_gP, x_pI, x_pZ, x_pL, x_pP, x_al, x_as, x_all, x_asl, x_alr, x_len, x_cpy, x_m2, x_m1, x_m2l, x_m1l, x_call, x_cv, x_ri, x_rz, x_rl, x_rv, zg, zset, zbef, zlong, zcat, cond_true, cond_false, List.take, List.drop, rv1, rv2, rv3, rv4, rv5, rv6, rv7, sm0, sm1, bl0, bl1, bl2, bl3, bl4, bl5, bl6, bl7, bl8, List.nil_append, List.cons_append, List.length_cons, List.length_nil, Nat.reduceBEq, Nat.reduceAdd, Nat.reduceSub, ta, tb, tn0, tn1, tn2, tn3, tn4, tn5, tn6, tn7, tn8, tn9, tn10, tn11, tn12, bX11_isTakenFor_83, bX11_isTakenFor_85]
        rw [n_succ i]
        refine ⟨fun q => ⟨Or.inl rfl, h0 (hout (fun z => z.1 q))⟩, fun q1 => ⟨fun q => ⟨fun q2 => ?_, fun q2 => ⟨Or.inl rfl, h0 (hout (fun z => z.2 ⟨q, ?_⟩))⟩⟩, fun q => ?_⟩⟩
        · have q2 : nI o ≤ nI i := q2
          rw [n_le (by omega) (by omega)] at q2
          exact hself _ _ ⟨_, rfl, rfl, hin q1 (by omega)⟩
        · have q2 : ¬ nI o ≤ nI i := q2
          rw [n_le (by omega) (by omega)] at q2
          omega
        · exact hself _ _ ⟨_, rfl, rfl, hin q1 (fun z => q z.1)⟩
      · rintro Z M ⟨z5, rfl, rfl, hf⟩ self
        dsimp only [x_int, x_lng, x_ild, x_lld, x_ald, x_ist, x_ast, x_lst, x_inc, x_ii, x_id, x_i, x_ll, x_ld, x_l, x_cmp, x_i2l, x_l2i, x_if, x_ic, x_dup, x_pop, x_dup2, x_gI, x_gL, x_gR, x_g1, x_g0, x_gP, x_pI, x_pZ, x_pL, x_pP, x_al, x_as, x_all, x_asl, x_alr, x_len, x_cpy, x_m2, x_m1, x_m2l, x_m1l, x_call, x_cv, x_ri, x_rz, x_rl, x_rv, zg, zset, zbef, zlong, zcat, cond_true, cond_false, List.take, List.drop, rv1, rv2, rv3, rv4, rv5, rv6, rv7, sm0, sm1, bl0, bl1, bl2, bl3, bl4, bl5, bl6, bl7, bl8, List.nil_append, List.cons_append, List.length_cons, List.length_nil, Nat.reduceBEq, Nat.reduceAdd, Nat.reduceSub, ta, tb, tn0, tn1, tn2, tn3, tn4, tn5, tn6, tn7, tn8, tn9, tn10, tn11, tn12]
        rw [h11]
        exact ⟨hT.1, fun _ => ⟨Or.inr rfl, h1 ⟨hf, r⟩⟩, fun q => absurd q (lt_out hT.2.1.1)⟩
def frg (T : aT) (S : aS) (h o w : Nat) : Nat → Option Nat × Nat
  | 0 => (none, 7)
  | c + 1 => if (frg T S h o w c).2 ≤ chg T h c then frg T S h o w c else if whof T S w (codK c) = some o then (some c, chg T h c) else frg T S h o w c
theorem frg_s (T : aT) (S : aS) (h o w c : Nat) : frg T S h o w (c + 1) = if (frg T S h o w c).2 ≤ chg T h c then frg T S h o w c else if whof T S w (codK c) = some o then (some c, chg T h c) else frg T S h o w c := rfl
theorem frg_7 {T : aT} {S : aS} {h o w : Nat} : ∀ c, (frg T S h o w c).2 ≤ 7 ∧ ∀ b, (frg T S h o w c).1 = some b → b < c := by
  intro c
  induction c with
  | zero => exact ⟨Nat.le_refl 7, fun b e => by cases e⟩
  | succ c ih =>
    rw [frg_s]
    split
    · exact ⟨ih.1, fun b e => by have := ih.2 b e; omega⟩
    · split
      · refine ⟨?_, fun b e => by cases e; omega⟩
        have := zcount_le (chq T h c) 6
        show zcount (chq T h c) 6 ≤ 7
        omega
      · exact ⟨ih.1, fun b e => by have := ih.2 b e; omega⟩
theorem frg_skip {T : aT} {S : aS} {h o w hi lo : Nat} (hh : hi < 64) (q : (frg T S h o w (hi * 64 + lo)).2 ≤ chv T h hi) : ∀ j, lo + j ≤ 64 → frg T S h o w (hi * 64 + (lo + j)) = frg T S h o w (hi * 64 + lo) := by
  intro j
  induction j with
  | zero => intro _; rfl
  | succ j ih =>
    intro hj
    have := ih (by omega)
    rw [show hi * 64 + (lo + (j + 1)) = hi * 64 + (lo + j) + 1 by omega, frg_s, this, if_pos]
    have e := chg_sp (T := T) (h := h) (c := hi * 64 + (lo + j)) (by omega)
    rw [show (hi * 64 + (lo + j)) / 64 = hi by omega] at e
    omega
abbrev okF (A : aA) (h o w x : Int32) : Prop := okN (A.T.1 0) h ∧ okN (A.T.1 0) o ∧ ¬ h = o ∧ okN (A.T.1 1) w ∧ okI x 0 1
def fgv (x : Int32) (r : Option Nat × Nat) : Int32 := match r.1 with
  | none => -2
  | some c => if x = 0 then nI r.2 else dgn (codK c) 6
def v_forge (A : aA) (h o w x : Int32) : Int32 := if okF A h o w x then fgv x (frg A.T A.S h.toNatClampNeg o.toNatClampNeg w.toNatClampNeg 4096) else -1
theorem frQ_49 {I I' : zI} (h : fr1 49 I I') : frQ I I' := fun a b c q => h a b c (fun e => by rw [e.1, e.2] at q; exact absurd q (by decide))
theorem frQ_50 {I I' : zI} (h : fr1 50 I I') : frQ I I' := fun a b c q => h a b c (fun e => by rw [e.1, e.2] at q; exact absurd q (by decide))
theorem c_forge {K : zQ} {I : zI} {L : zJ} {P : zP} {A : aA} {h o w x : Int32} (wT : WT A.T) (hC : RC A I P) (hK : ∀ (I' : zI) (L' : zJ), frQ I I' → zeL2 L L' → K [.inl (v_forge A h o w x)] (I', L', P)) : mX11_forge K [kbR, .inl h, .inl o, .inl w, .inl x] (I, L, P) := by
  obtain ⟨t, hT, h11, h8, hS⟩ := hC.b
  have h6 := hT.h6
  have w4 := hT.w4
  have hgp : ∀ h, h < A.T.1 0 → ∀ i, i < 128 → I 15 (6 * t + h) i = gapv A.T h i := by
    obtain ⟨t', h1, -⟩ := hC
    have : t' = t := h1.2.1.symm.trans h11
    subst this; exact h1.2.2.2.1
  have bad : ¬ okF A h o w x → K [.inl (-1)] (I, L, P) := fun z => by
    have hk := hK I L frQ.rf zeL2.rf
    unfold v_forge at hk
    rw [if_neg z] at hk; exact hk
  show bX11_forge_0 K [some (.inr (.inr (11,0))), some (.inl h), some (.inl o), some (.inl w), some (.inl x), none, none, none, none, none] [] (I, L, P)
  unfold bX11_forge_0
  dsimp only [x_int, x_lng, x_ild, x_lld, x_ald, x_ist, x_ast, x_lst, x_inc, x_ii, x_id, x_i, x_ll, x_ld, x_l, x_cmp, x_i2l, x_l2i, x_if, x_ic, x_dup, x_pop, x_dup2, x_gI, x_gL, x_gR, x_g1, x_g0, x_gP, x_pI, x_pZ, x_pL, x_pP, x_al, x_as, x_all, x_asl, x_alr, x_len, x_cpy, x_m2, x_m1, x_m2l, x_m1l, x_call, x_cv, x_ri, x_rz, x_rl, x_rv, zg, zset, zbef, zlong, zcat, cond_true, cond_false, List.take, List.drop, rv1, rv2, rv3, rv4, rv5, rv6, rv7, sm0, sm1, bl0, bl1, bl2, bl3, bl4, bl5, bl6, bl7, bl8, List.nil_append, List.cons_append, List.length_cons, List.length_nil, Nat.reduceBEq, Nat.reduceAdd, Nat.reduceSub, ta, tb, tn0, tn1, tn2, tn3, tn4, tn5, tn6, tn7, tn8, tn9, tn10, tn11, tn12, bX11_forge_40]
  refine p_isHandC hT h11 (fun g1 => ?_) (fun no => ?_)
  · dsimp only [x_int, x_lng, x_ild, x_lld, x_ald, x_ist, x_ast, x_lst, x_inc, x_ii, x_id, x_i, x_ll, x_ld, x_l, x_cmp, x_i2l, x_l2i, x_if, x_ic, x_dup, x_pop, x_dup2, x_gI, x_gL, x_gR, x_g1, x_g0, x_gP, x_pI, x_pZ, x_pL, x_pP, x_al, x_as, x_all, x_asl, x_alr, x_len, x_cpy, x_m2, x_m1, x_m2l, x_m1l, x_call, x_cv, x_ri, x_rz, x_rl, x_rv, zg, zset, zbef, zlong, zcat, cond_true, cond_false, List.take, List.drop, rv1, rv2, rv3, rv4, rv5, rv6, rv7, sm0, sm1, bl0, bl1, bl2, bl3, bl4, bl5, bl6, bl7, bl8, List.nil_append, List.cons_append, List.length_cons, List.length_nil, Nat.reduceBEq, Nat.reduceAdd, Nat.reduceSub, ta, tb, tn0, tn1, tn2, tn3, tn4, tn5, tn6, tn7, tn8, tn9, tn10, tn11, tn12, bX11_forge_40]
    refine ⟨fun z => absurd z (by decide), fun _ => p_isHandC hT h11 (fun g2 => ?_) (fun no => ?_)⟩
    · dsimp only [x_int, x_lng, x_ild, x_lld, x_ald, x_ist, x_ast, x_lst, x_inc, x_ii, x_id, x_i, x_ll, x_ld, x_l, x_cmp, x_i2l, x_l2i, x_if, x_ic, x_dup, x_pop, x_dup2, x_gI, x_gL, x_gR, x_g1, x_g0, x_gP, x_pI, x_pZ, x_pL, x_pP, x_al, x_as, x_all, x_asl, x_alr, x_len, x_cpy, x_m2, x_m1, x_m2l, x_m1l, x_call, x_cv, x_ri, x_rz, x_rl, x_rv, zg, zset, zbef, zlong, zcat, cond_true, cond_false, List.take, List.drop, rv1, rv2, rv3, rv4, rv5, rv6, rv7, sm0, sm1, bl0, bl1, bl2, bl3, bl4, bl5, bl6, bl7, bl8, List.nil_append, List.cons_append, List.length_cons, List.length_nil, Nat.reduceBEq, Nat.reduceAdd, Nat.reduceSub, ta, tb, tn0, tn1, tn2, tn3, tn4, tn5, tn6, tn7, tn8, tn9, tn10, tn11, tn12, bX11_forge_40]
      refine ⟨fun z => absurd z (by decide), fun _ => ⟨fun z => bad (fun q => q.2.2.1 z), fun g3 => p_isWoodC hT h11 (fun g4 => ?_) (fun no => ?_)⟩⟩
      · dsimp only [x_int, x_lng, x_ild, x_lld, x_ald, x_ist, x_ast, x_lst, x_inc, x_ii, x_id, x_i, x_ll, x_ld, x_l, x_cmp, x_i2l, x_l2i, x_if, x_ic, x_dup, x_pop, x_dup2, x_gI, x_gL, x_gR, x_g1, x_g0, x_gP, x_pI, x_pZ, x_pL, x_pP, x_al, x_as, x_all, x_asl, x_alr, x_len, x_cpy, x_m2, x_m1, x_m2l, x_m1l, x_call, x_cv, x_ri, x_rz, x_rl, x_rv, zg, zset, zbef, zlong, zcat, cond_true, cond_false, List.take, List.drop, rv1, rv2, rv3, rv4, rv5, rv6, rv7, sm0, sm1, bl0, bl1, bl2, bl3, bl4, bl5, bl6, bl7, bl8, List.nil_append, List.cons_append, List.length_cons, List.length_nil, Nat.reduceBEq, Nat.reduceAdd, Nat.reduceSub, ta, tb, tn0, tn1, tn2, tn3, tn4, tn5, tn6, tn7, tn8, tn9, tn10, tn11, tn12, bX11_forge_40]
        refine ⟨fun z => absurd z (by decide), fun _ => ⟨fun c => bad (fun z => Int32.not_lt.mpr z.2.2.2.2.1 c), fun c => ⟨fun d => ?_, fun d => bad (fun z => d z.2.2.2.2.2)⟩⟩⟩
        have good : okF A h o w x := ⟨g1, g2, g3, g4, Int32.not_lt.mp c, d⟩
        unfold v_forge at hK
        rw [if_pos good] at hK
        obtain ⟨a, rfl, ha⟩ := ok_of (by omega) g1
        obtain ⟨b, rfl, hb⟩ := ok_of (by omega) g2
        obtain ⟨y, rfl, hy⟩ := ok_of (by omega) g4
        rw [n_cl (n := a) (by omega), n_cl (n := b) (by omega), n_cl (n := y) (by omega)] at hK
        dsimp only [x_int, x_lng, x_ild, x_lld, x_ald, x_ist, x_ast, x_lst, x_inc, x_ii, x_id, x_i, x_ll, x_ld, x_l, x_cmp, x_i2l, x_l2i, x_if, x_ic, x_dup, x_pop, x_dup2, x_gI, x_gL, x_gR, x_g1, x_g0, x_gP, x_pI, x_pZ, x_pL, x_pP, x_al, x_as, x_all, x_asl, x_alr, x_len, x_cpy, x_m2, x_m1, x_m2l, x_m1l, x_call, x_cv, x_ri, x_rz, x_rl, x_rv, zg, zset, zbef, zlong, zcat, cond_true, cond_false, List.take, List.drop, rv1, rv2, rv3, rv4, rv5, rv6, rv7, sm0, sm1, bl0, bl1, bl2, bl3, bl4, bl5, bl6, bl7, bl8, List.nil_append, List.cons_append, List.length_cons, List.length_nil, Nat.reduceBEq, Nat.reduceAdd, Nat.reduceSub, ta, tb, tn0, tn1, tn2, tn3, tn4, tn5, tn6, tn7, tn8, tn9, tn10, tn11, tn12, zl_43]
        rw [h11, n_cl (n := a) (by omega)]
        refine ⟨hT.1, n_zin (by omega) (by decide), p_countChanges (T := A.T) (h := a) (hT.hand ha).2.2.2 (fun I1 hI1 hch => ?_)⟩
        have q1 := frQ_49 hI1
        -- how near is near enough
        refine zinv 31 (fun i Z M => ∃ (I' : zI) (L' : zJ), Z = [some kbR, some (.inl (nI a)), some (.inl (nI b)), some (.inl (nI y)), some (.inl x), some (.inl (nI i)), none, none, none, none] ∧ M = (I', L', P) ∧ fr1 50 I1 I' ∧ zeL2 L L' ∧ ∀ f, f < i → I' 50 0 f = if rch A.T A.S b y (nI f) < nI f then 0 else 1) ?_ ?_ ⟨I1, L, rfl, rfl, fun _ _ _ _ => rfl, zeL2.rf, fun f hf => by omega⟩
        · rintro i Z M hi ⟨I', L', rfl, rfl, r1, r2, r3⟩ self hself
          have q2 := q1.tr (frQ_50 r1)
          dsimp only [x_int, x_lng, x_ild, x_lld, x_ald, x_ist, x_ast, x_lst, x_inc, x_ii, x_id, x_i, x_ll, x_ld, x_l, x_cmp, x_i2l, x_l2i, x_if, x_ic, x_dup, x_pop, x_dup2, x_gI, x_gL, x_gR, x_g1, x_g0, x_gP, x_pI, x_pZ, x_pL, x_pP, x_al, x_as, x_all, x_asl, x_alr, x_len, x_cpy, x_m2, x_m1, x_m2l, x_m1l, x_call, x_cv, x_ri, x_rz, x_rl, x_rv, zg, zset, zbef, zlong, zcat, cond_true, cond_false, List.take, List.drop, rv1, rv2, rv3, rv4, rv5, rv6, rv7, sm0, sm1, bl0, bl1, bl2, bl3, bl4, bl5, bl6, bl7, bl8, List.nil_append, List.cons_append, List.length_cons, List.length_nil, Nat.reduceBEq, Nat.reduceAdd, Nat.reduceSub, ta, tb, tn0, tn1, tn2, tn3, tn4, tn5, tn6, tn7, tn8, tn9, tn10, tn11, tn12, zl_50]
          refine ⟨fun q => absurd q (lt_go (n := 31) rfl (by omega) hi), fun _ => p_reach h8 (q2.CT hT) (q2.CS (by decide) hS) hb hy (fun L2 hL2 => ?_)⟩
          dsimp only [x_int, x_lng, x_ild, x_lld, x_ald, x_ist, x_ast, x_lst, x_inc, x_ii, x_id, x_i, x_ll, x_ld, x_l, x_cmp, x_i2l, x_l2i, x_if, x_ic, x_dup, x_pop, x_dup2, x_gI, x_gL, x_gR, x_g1, x_g0, x_gP, x_pI, x_pZ, x_pL, x_pP, x_al, x_as, x_all, x_asl, x_alr, x_len, x_cpy, x_m2, x_m1, x_m2l, x_m1l, x_call, x_cv, x_ri, x_rz, x_rl, x_rv, zg, zset, zbef, zlong, zcat, cond_true, cond_false, List.take, List.drop, rv1, rv2, rv3, rv4, rv5, rv6, rv7, sm0, sm1, bl0, bl1, bl2, bl3, bl4, bl5, bl6, bl7, bl8, List.nil_append, List.cons_append, List.length_cons, List.length_nil, Nat.reduceBEq, Nat.reduceAdd, Nat.reduceSub, ta, tb, tn0, tn1, tn2, tn3, tn4, tn5, tn6, tn7, tn8, tn9, tn10, tn11, tn12, zk_50, zl_50, bX11_forge_98]
          rw [n_cl (n := i) (by omega), n_succ i, nar0, nar1]
          have fin : ∀ v : Int32, v = (if rch A.T A.S b y (nI i) < nI i then 0 else 1) → self [some kbR, some (.inl (nI a)), some (.inl (nI b)), some (.inl (nI y)), some (.inl x), some (.inl (nI (i + 1))), none, none, none, none] [] (zsI (I', L2, P) 50 0 i v) := fun v hv => by
            obtain ⟨I3, e3, w3, f3⟩ := zsI_ex I' L2 P 50 0 i v
            rw [e3]
            refine hself _ _ ⟨I3, L2, rfl, rfl, fun a b c q => ?_, fun a b c z1 z2 => (hL2 a b c z1 z2).trans (r2 a b c z1 z2), fun f hf => ?_⟩
            · exact (f3 a b c (fun e => q ⟨e.1, e.2.1⟩)).trans (r1 a b c q)
            · by_cases e : f = i
              · subst e; rw [w3]; exact hv
              · exact (f3 50 0 f (fun z => e z.2.2)).trans (r3 f (by omega))
          refine ⟨fun q => ⟨n_zin hi (by decide), fin _ ?_⟩, fun q => ⟨n_zin hi (by decide), fin _ ?_⟩⟩
          · have q : rch A.T A.S b y (nI i) < nI i := q
            rw [if_pos q]
          · have q : ¬ rch A.T A.S b y (nI i) < nI i := q
            rw [if_neg q]
        · rintro Z M ⟨I', L', rfl, rfl, r1, r2, r3⟩ self
          dsimp only [x_int, x_lng, x_ild, x_lld, x_ald, x_ist, x_ast, x_lst, x_inc, x_ii, x_id, x_i, x_ll, x_ld, x_l, x_cmp, x_i2l, x_l2i, x_if, x_ic, x_dup, x_pop, x_dup2, x_gI, x_gL, x_gR, x_g1, x_g0, x_gP, x_pI, x_pZ, x_pL, x_pP, x_al, x_as, x_all, x_asl, x_alr, x_len, x_cpy, x_m2, x_m1, x_m2l, x_m1l, x_call, x_cv, x_ri, x_rz, x_rl, x_rv, zg, zset, zbef, zlong, zcat, cond_true, cond_false, List.take, List.drop, rv1, rv2, rv3, rv4, rv5, rv6, rv7, sm0, sm1, bl0, bl1, bl2, bl3, bl4, bl5, bl6, bl7, bl8, List.nil_append, List.cons_append, List.length_cons, List.length_nil, Nat.reduceBEq, Nat.reduceAdd, Nat.reduceSub, ta, tb, tn0, tn1, tn2, tn3, tn4, tn5, tn6, tn7, tn8, tn9, tn10, tn11, tn12, zl_50]
          refine ⟨fun _ => ?_, fun q => absurd q (lt_out (n := 31) rfl)⟩
          have q2 := q1.tr (frQ_50 r1)
          have hT2 := q2.CT hT
          have hg2 : ∀ h, h < A.T.1 0 → ∀ i, i < 128 → I' 15 (6 * t + h) i = gapv A.T h i := fun h hh i hi => (q2 15 _ i rfl).trans (hgp h hh i hi)
          have hc2 : ∀ i, i < 128 → I' 49 0 i = nI (chv A.T a i) := fun i hi => (r1 49 0 i (by omega)).trans (hch i hi)
          have cv3 : ∀ i, chv A.T a i ≤ 3 := fun i => zcount_le _ 3
          have hk := hK I' L' q2 r2
          refine zinv 64 (fun i Z M => ∃ (z8 z9 : Option zV), Z = [some kbR, some (.inl (nI a)), some (.inl (nI b)), some (.inl (nI y)), some (.inl x), some (.inl (nI (frg A.T A.S a b y (i * 64)).2)), some (.inl (wbR (frg A.T A.S a b y (i * 64)).1)), some (.inl (nI i)), z8, z9] ∧ M = (I', L', P)) ?_ ?_ ⟨none, none, rfl, rfl⟩
          · rintro i Z M hi ⟨z8, z9, rfl, rfl⟩ self hself
            dsimp only [x_int, x_lng, x_ild, x_lld, x_ald, x_ist, x_ast, x_lst, x_inc, x_ii, x_id, x_i, x_ll, x_ld, x_l, x_cmp, x_i2l, x_l2i, x_if, x_ic, x_dup, x_pop, x_dup2, x_gI, x_gL, x_gR, x_g1, x_g0, x_gP, x_pI, x_pZ, x_pL, x_pP, x_al, x_as, x_all, x_asl, x_alr, x_len, x_cpy, x_m2, x_m1, x_m2l, x_m1l, x_call, x_cv, x_ri, x_rz, x_rl, x_rv, zg, zset, zbef, zlong, zcat, cond_true, cond_false, List.take, List.drop, rv1, rv2, rv3, rv4, rv5, rv6, rv7, sm0, sm1, bl0, bl1, bl2, bl3, bl4, bl5, bl6, bl7, bl8, List.nil_append, List.cons_append, List.length_cons, List.length_nil, Nat.reduceBEq, Nat.reduceAdd, Nat.reduceSub, ta, tb, tn0, tn1, tn2, tn3, tn4, tn5, tn6, tn7, tn8, tn9, tn10, tn11, tn12]
            refine ⟨fun q => absurd q (lt_go (n := 64) rfl (by omega) hi), fun _ => ?_⟩
            refine zinv 64 (fun j Z M => ∃ (z9 : Option zV), Z = [some kbR, some (.inl (nI a)), some (.inl (nI b)), some (.inl (nI y)), some (.inl x), some (.inl (nI (frg A.T A.S a b y (i * 64 + j)).2)), some (.inl (wbR (frg A.T A.S a b y (i * 64 + j)).1)), some (.inl (nI i)), some (.inl (nI j)), z9] ∧ M = (I', L', P)) ?_ ?_ ⟨z9, rfl, rfl⟩
            · rintro j Z M hj ⟨z9, rfl, rfl⟩ self2 hself2
              have f7 := (frg_7 (T := A.T) (S := A.S) (h := a) (o := b) (w := y) (i * 64 + j)).1
              have s := frg_s A.T A.S a b y (i * 64 + j)
              have sp := chg_sp (T := A.T) (h := a) (c := i * 64 + j) (by omega)
              rw [show (i * 64 + j) / 64 = i by omega, show (i * 64 + j) % 64 = j by omega] at sp
              have c3 := cv3 i
              have c4 := cv3 (64 + j)
              dsimp only [x_int, x_lng, x_ild, x_lld, x_ald, x_ist, x_ast, x_lst, x_inc, x_ii, x_id, x_i, x_ll, x_ld, x_l, x_cmp, x_i2l, x_l2i, x_if, x_ic, x_dup, x_pop, x_dup2, x_gI, x_gL, x_gR, x_g1, x_g0, x_gP, x_pI, x_pZ, x_pL, x_pP, x_al, x_as, x_all, x_asl, x_alr, x_len, x_cpy, x_m2, x_m1, x_m2l, x_m1l, x_call, x_cv, x_ri, x_rz, x_rl, x_rv, zg, zset, zbef, zlong, zcat, cond_true, cond_false, List.take, List.drop, rv1, rv2, rv3, rv4, rv5, rv6, rv7, sm0, sm1, bl0, bl1, bl2, bl3, bl4, bl5, bl6, bl7, bl8, List.nil_append, List.cons_append, List.length_cons, List.length_nil, Nat.reduceBEq, Nat.reduceAdd, Nat.reduceSub, ta, tb, tn0, tn1, tn2, tn3, tn4, tn5, tn6, tn7, tn8, tn9, tn10, tn11, tn12, zk_49, zl_49, bX11_forge_207, bX11_forge_201]
              rw [show (64 : Int32) + nI j = nI (64 + j) from n_add 64 _, n_cl (n := i) (by omega), n_cl (n := 64 + j) (by omega), hc2 i (by omega), hc2 (64 + j) (by omega), n_add, sp, show nI i * 64 + nI j = nI (i * 64 + j) by rw [show (64 : Int32) = nI 64 from rfl, n_mul, n_add], n_succ i, n_succ j]
              refine ⟨fun q => absurd q (lt_go (n := 64) rfl (by omega) hj), fun _ => ⟨n_zin (by omega) (by decide), fun q => ?_, fun q => ⟨n_zin (by omega) (by decide), n_zin (by omega) (by decide), fun q2 => ?_, fun q2 => p_isTakenFor (w := y) wT hT2 h11 hg2 r3 hb (by omega) (fun ok => ?_) (fun no => ?_)⟩⟩⟩
              · have q : nI (frg A.T A.S a b y (i * 64 + j)).2 ≤ nI (chv A.T a i) := q
                rw [n_le (by omega) (by omega)] at q
                have e := frg_skip hi q (64 - j) (by omega)
                rw [show i * 64 + (j + (64 - j)) = (i + 1) * 64 by omega] at e
                rw [← e]
                exact hself _ _ ⟨_, _, rfl, rfl⟩
              · have q2 : nI (frg A.T A.S a b y (i * 64 + j)).2 ≤ nI (chg A.T a (i * 64 + j)) := q2
                rw [n_le (by omega) (by omega)] at q2
                rw [if_pos q2] at s
                rw [← s]
                exact hself2 _ _ ⟨_, rfl, rfl⟩
              · dsimp only [x_int, x_lng, x_ild, x_lld, x_ald, x_ist, x_ast, x_lst, x_inc, x_ii, x_id, x_i, x_ll, x_ld, x_l, x_cmp, x_i2l, x_l2i, x_if, x_ic, x_dup, x_pop, x_dup2, x_gI, x_gL, x_gR, x_g1, x_g0, x_gP, x_pI, x_pZ, x_pL, x_pP, x_al, x_as, x_all, x_asl, x_alr, x_len, x_cpy, x_m2, x_m1, x_m2l, x_m1l, x_call, x_cv, x_ri, x_rz, x_rl, x_rv, zg, zset, zbef, zlong, zcat, cond_true, cond_false, List.take, List.drop, rv1, rv2, rv3, rv4, rv5, rv6, rv7, sm0, sm1, bl0, bl1, bl2, bl3, bl4, bl5, bl6, bl7, bl8, List.nil_append, List.cons_append, List.length_cons, List.length_nil, Nat.reduceBEq, Nat.reduceAdd, Nat.reduceSub, ta, tb, tn0, tn1, tn2, tn3, tn4, tn5, tn6, tn7, tn8, tn9, tn10, tn11, tn12, bX11_forge_201]
                have q2 : ¬ nI (frg A.T A.S a b y (i * 64 + j)).2 ≤ nI (chg A.T a (i * 64 + j)) := q2
                rw [n_le (by omega) (by omega)] at q2
                rw [if_neg q2, if_pos ok] at s
                have z1 : chg A.T a (i * 64 + j) = (frg A.T A.S a b y (i * 64 + j + 1)).2 := by rw [s]
                have z2 : nI (i * 64 + j) = wbR (frg A.T A.S a b y (i * 64 + j + 1)).1 := by rw [s]; rfl
                rw [z2, z1]
                try rw [n_succ j]
                exact ⟨fun z => absurd z (by decide), fun _ => hself2 _ _ ⟨_, rfl, rfl⟩⟩
              · dsimp only [x_int, x_lng, x_ild, x_lld, x_ald, x_ist, x_ast, x_lst, x_inc, x_ii, x_id, x_i, x_ll, x_ld, x_l, x_cmp, x_i2l, x_l2i, x_if, x_ic, x_dup, x_pop, x_dup2, x_gI, x_gL, x_gR, x_g1, x_g0, x_gP, x_pI, x_pZ, x_pL, x_pP, x_al, x_as, x_all, x_asl, x_alr, x_len, x_cpy, x_m2, x_m1, x_m2l, x_m1l, x_call, x_cv, x_ri, x_rz, x_rl, x_rv, zg, zset, zbef, zlong, zcat, cond_true, cond_false, List.take, List.drop, rv1, rv2, rv3, rv4, rv5, rv6, rv7, sm0, sm1, bl0, bl1, bl2, bl3, bl4, bl5, bl6, bl7, bl8, List.nil_append, List.cons_append, List.length_cons, List.length_nil, Nat.reduceBEq, Nat.reduceAdd, Nat.reduceSub, ta, tb, tn0, tn1, tn2, tn3, tn4, tn5, tn6, tn7, tn8, tn9, tn10, tn11, tn12, bX11_forge_201]
                have q2 : ¬ nI (frg A.T A.S a b y (i * 64 + j)).2 ≤ nI (chg A.T a (i * 64 + j)) := q2
                rw [n_le (by omega) (by omega)] at q2
                rw [if_neg q2, if_neg no] at s
                rw [← s]
                try rw [n_succ j]
                exact ⟨fun _ => hself2 _ _ ⟨_, rfl, rfl⟩, fun z => absurd rfl z⟩
            · rintro Z M ⟨z9, rfl, rfl⟩ self2
              dsimp only [x_int, x_lng, x_ild, x_lld, x_ald, x_ist, x_ast, x_lst, x_inc, x_ii, x_id, x_i, x_ll, x_ld, x_l, x_cmp, x_i2l, x_l2i, x_if, x_ic, x_dup, x_pop, x_dup2, x_gI, x_gL, x_gR, x_g1, x_g0, x_gP, x_pI, x_pZ, x_pL, x_pP, x_al, x_as, x_all, x_asl, x_alr, x_len, x_cpy, x_m2, x_m1, x_m2l, x_m1l, x_call, x_cv, x_ri, x_rz, x_rl, x_rv, zg, zset, zbef, zlong, zcat, cond_true, cond_false, List.take, List.drop, rv1, rv2, rv3, rv4, rv5, rv6, rv7, sm0, sm1, bl0, bl1, bl2, bl3, bl4, bl5, bl6, bl7, bl8, List.nil_append, List.cons_append, List.length_cons, List.length_nil, Nat.reduceBEq, Nat.reduceAdd, Nat.reduceSub, ta, tb, tn0, tn1, tn2, tn3, tn4, tn5, tn6, tn7, tn8, tn9, tn10, tn11, tn12, bX11_forge_207]
              rw [n_succ i, show i * 64 + 64 = (i + 1) * 64 by omega]
              exact ⟨fun _ => hself _ _ ⟨_, _, rfl, rfl⟩, fun q => absurd q (lt_out (n := 64) rfl)⟩
          · rintro Z M ⟨z8, z9, rfl, rfl⟩ self
            dsimp only [x_int, x_lng, x_ild, x_lld, x_ald, x_ist, x_ast, x_lst, x_inc, x_ii, x_id, x_i, x_ll, x_ld, x_l, x_cmp, x_i2l, x_l2i, x_if, x_ic, x_dup, x_pop, x_dup2, x_gI, x_gL, x_gR, x_g1, x_g0, x_gP, x_pI, x_pZ, x_pL, x_pP, x_al, x_as, x_all, x_asl, x_alr, x_len, x_cpy, x_m2, x_m1, x_m2l, x_m1l, x_call, x_cv, x_ri, x_rz, x_rl, x_rv, zg, zset, zbef, zlong, zcat, cond_true, cond_false, List.take, List.drop, rv1, rv2, rv3, rv4, rv5, rv6, rv7, sm0, sm1, bl0, bl1, bl2, bl3, bl4, bl5, bl6, bl7, bl8, List.nil_append, List.cons_append, List.length_cons, List.length_nil, Nat.reduceBEq, Nat.reduceAdd, Nat.reduceSub, ta, tb, tn0, tn1, tn2, tn3, tn4, tn5, tn6, tn7, tn8, tn9, tn10, tn11, tn12, bX11_forge_239]
            refine ⟨fun _ => ?_, fun q => absurd q (lt_out (n := 64) rfl)⟩
            have lt := (frg_7 (T := A.T) (S := A.S) (h := a) (o := b) (w := y) (64 * 64)).2
            have hk : K [.inl (fgv x (frg A.T A.S a b y (64 * 64)))] (I', L', P) := hk
            revert hk lt
            generalize frg A.T A.S a b y (64 * 64) = F
            obtain ⟨F1, F2⟩ := F
            intro lt hk
            cases F1 with
            | none => exact ⟨fun _ => hk, fun z => absurd rfl z⟩
            | some c =>
              have := lt c rfl
              have hk : K [.inl (if x = 0 then nI F2 else dgn (codK c) 6)] (I', L', P) := hk
              refine ⟨fun z => absurd z (n_ne1 (by omega)), fun _ => ⟨fun z => ?_, fun z => p_digitsCode (by omega) ?_⟩⟩
              · rw [if_pos z] at hk; exact hk
              · rw [if_neg z] at hk; exact hk
      · dsimp only [x_int, x_lng, x_ild, x_lld, x_ald, x_ist, x_ast, x_lst, x_inc, x_ii, x_id, x_i, x_ll, x_ld, x_l, x_cmp, x_i2l, x_l2i, x_if, x_ic, x_dup, x_pop, x_dup2, x_gI, x_gL, x_gR, x_g1, x_g0, x_gP, x_pI, x_pZ, x_pL, x_pP, x_al, x_as, x_all, x_asl, x_alr, x_len, x_cpy, x_m2, x_m1, x_m2l, x_m1l, x_call, x_cv, x_ri, x_rz, x_rl, x_rv, zg, zset, zbef, zlong, zcat, cond_true, cond_false, List.take, List.drop, rv1, rv2, rv3, rv4, rv5, rv6, rv7, sm0, sm1, bl0, bl1, bl2, bl3, bl4, bl5, bl6, bl7, bl8, List.nil_append, List.cons_append, List.length_cons, List.length_nil, Nat.reduceBEq, Nat.reduceAdd, Nat.reduceSub, ta, tb, tn0, tn1, tn2, tn3, tn4, tn5, tn6, tn7, tn8, tn9, tn10, tn11, tn12, bX11_forge_40]
        exact ⟨fun _ => bad (fun z => no z.2.2.2.1), fun z => absurd rfl z⟩
    · dsimp only [x_int, x_lng, x_ild, x_lld, x_ald, x_ist, x_ast, x_lst, x_inc, x_ii, x_id, x_i, x_ll, x_ld, x_l, x_cmp, x_i2l, x_l2i, x_if, x_ic, x_dup, x_pop, x_dup2, x_gI, x_gL, x_gR, x_g1, x_g0, x_gP, x_pI, x_pZ, x_pL, x_pP, x_al, x_as, x_all, x_asl, x_alr, x_len, x_cpy, x_m2, x_m1, x_m2l, x_m1l, x_call, x_cv, x_ri, x_rz, x_rl, x_rv, zg, zset, zbef, zlong, zcat, cond_true, cond_false, List.take, List.drop, rv1, rv2, rv3, rv4, rv5, rv6, rv7, sm0, sm1, bl0, bl1, bl2, bl3, bl4, bl5, bl6, bl7, bl8, List.nil_append, List.cons_append, List.length_cons, List.length_nil, Nat.reduceBEq, Nat.reduceAdd, Nat.reduceSub, ta, tb, tn0, tn1, tn2, tn3, tn4, tn5, tn6, tn7, tn8, tn9, tn10, tn11, tn12, bX11_forge_40]
      exact ⟨fun _ => bad (fun z => no z.2.1), fun z => absurd rfl z⟩
  · dsimp only [x_int, x_lng, x_ild, x_lld, x_ald, x_ist, x_ast, x_lst, x_inc, x_ii, x_id, x_i, x_ll, x_ld, x_l, x_cmp, x_i2l, x_l2i, x_if, x_ic, x_dup, x_pop, x_dup2, x_gI, x_gL, x_gR, x_g1, x_g0, x_gP, x_pI, x_pZ, x_pL, x_pP, x_al, x_as, x_all, x_asl, x_alr, x_len, x_cpy, x_m2, x_m1, x_m2l, x_m1l, x_call, x_cv, x_ri, x_rz, x_rl, x_rv, zg, zset, zbef, zlong, zcat, cond_true, cond_false, List.take, List.drop, rv1, rv2, rv3, rv4, rv5, rv6, rv7, sm0, sm1, bl0, bl1, bl2, bl3, bl4, bl5, bl6, bl7, bl8, List.nil_append, List.cons_append, List.length_cons, List.length_nil, Nat.reduceBEq, Nat.reduceAdd, Nat.reduceSub, ta, tb, tn0, tn1, tn2, tn3, tn4, tn5, tn6, tn7, tn8, tn9, tn10, tn11, tn12, bX11_forge_40]
    exact ⟨fun _ => bad (fun z => no z.1), fun z => absurd rfl z⟩
theorem wbR_o {q : Option Nat} {o n : Nat} (hq : ∀ b, q = some b → b < n) (hn : n < 2147483648) (ho : o < n) : wbR q = nI o ↔ q = some o := by
  cases q with
  | none => exact ⟨fun e => absurd e.symm (n_ne1 (by omega)), fun e => by cases e⟩
  | some b =>
    have := hq b rfl
    constructor
    · intro e
      have e : nI b = nI o := e
      rw [n_eq (by omega) (by omega)] at e
      rw [e]
    · intro e; cases e; rfl
theorem r_forge {K : zQ} {I : zI} {L : zJ} {P : zP} {A : aA} {h o w x : Int32} (wT : WT A.T) (wL : WL A.S) (hR : RR A I L) (hK : ∀ (I' : zI) (L' : zJ), frR I I' → zeLr L L' → K [.inl (v_forge A h o w x)] (I', L', P)) : mX12_forge K [refR, .inl h, .inl o, .inl w, .inl x] (I, L, P) := by
  show bX12_forge_0 K [some (.inr (.inr (12,0))), some (.inl h), some (.inl o), some (.inl w), some (.inl x), none, none, none, none, none] [] (I, L, P)
  unfold bX12_forge_0
  obtain ⟨I1, e9, hR1, f1⟩ := r_thr P hR
  dsimp only [x_ald, x_int, x_pI, zg, Nat.reduceBEq, cond_true]
  rw [e9]
  have hT := hR1.1
  have hS := hR1.2.1
  have hp := hR1.2.2.1
  have h6 := hT.h6
  have w4 := hT.w4
  have bad : ¬ okF A h o w x → K [.inl (-1)] (I1, L, P) := fun z => by
    have hk := hK I1 L f1 zeLr.rf
    unfold v_forge at hk
    rw [if_neg z] at hk; exact hk
  dsimp only [x_int, x_lng, x_ild, x_lld, x_ald, x_ist, x_ast, x_lst, x_inc, x_ii, x_id, x_i, x_ll, x_ld, x_l, x_cmp, x_i2l, x_l2i, x_if, x_ic, x_dup, x_pop, x_dup2, x_gI, x_gL, x_gR, x_g1, x_g0, x_gP, x_pI, x_pZ, x_pL, x_pP, x_al, x_as, x_all, x_asl, x_alr, x_len, x_cpy, x_m2, x_m1, x_m2l, x_m1l, x_call, x_cv, x_ri, x_rz, x_rl, x_rv, zg, zset, zbef, zlong, zcat, cond_true, cond_false, List.take, List.drop, rv1, rv2, rv3, rv4, rv5, rv6, rv7, sm0, sm1, bl0, bl1, bl2, bl3, bl4, bl5, bl6, bl7, bl8, List.nil_append, List.cons_append, List.length_cons, List.length_nil, Nat.reduceBEq, Nat.reduceAdd, Nat.reduceSub, ta, tb, tn0, tn1, tn2, tn3, tn4, tn5, tn6, tn7, tn8, tn9, tn10, tn11, tn12, bX12_forge_44]
  refine p_isHandR hT (fun g1 => ?_) (fun no => ?_)
  · dsimp only [x_int, x_lng, x_ild, x_lld, x_ald, x_ist, x_ast, x_lst, x_inc, x_ii, x_id, x_i, x_ll, x_ld, x_l, x_cmp, x_i2l, x_l2i, x_if, x_ic, x_dup, x_pop, x_dup2, x_gI, x_gL, x_gR, x_g1, x_g0, x_gP, x_pI, x_pZ, x_pL, x_pP, x_al, x_as, x_all, x_asl, x_alr, x_len, x_cpy, x_m2, x_m1, x_m2l, x_m1l, x_call, x_cv, x_ri, x_rz, x_rl, x_rv, zg, zset, zbef, zlong, zcat, cond_true, cond_false, List.take, List.drop, rv1, rv2, rv3, rv4, rv5, rv6, rv7, sm0, sm1, bl0, bl1, bl2, bl3, bl4, bl5, bl6, bl7, bl8, List.nil_append, List.cons_append, List.length_cons, List.length_nil, Nat.reduceBEq, Nat.reduceAdd, Nat.reduceSub, ta, tb, tn0, tn1, tn2, tn3, tn4, tn5, tn6, tn7, tn8, tn9, tn10, tn11, tn12, bX12_forge_44]
    refine ⟨fun z => absurd z (by decide), fun _ => p_isHandR hT (fun g2 => ?_) (fun no => ?_)⟩
    · dsimp only [x_int, x_lng, x_ild, x_lld, x_ald, x_ist, x_ast, x_lst, x_inc, x_ii, x_id, x_i, x_ll, x_ld, x_l, x_cmp, x_i2l, x_l2i, x_if, x_ic, x_dup, x_pop, x_dup2, x_gI, x_gL, x_gR, x_g1, x_g0, x_gP, x_pI, x_pZ, x_pL, x_pP, x_al, x_as, x_all, x_asl, x_alr, x_len, x_cpy, x_m2, x_m1, x_m2l, x_m1l, x_call, x_cv, x_ri, x_rz, x_rl, x_rv, zg, zset, zbef, zlong, zcat, cond_true, cond_false, List.take, List.drop, rv1, rv2, rv3, rv4, rv5, rv6, rv7, sm0, sm1, bl0, bl1, bl2, bl3, bl4, bl5, bl6, bl7, bl8, List.nil_append, List.cons_append, List.length_cons, List.length_nil, Nat.reduceBEq, Nat.reduceAdd, Nat.reduceSub, ta, tb, tn0, tn1, tn2, tn3, tn4, tn5, tn6, tn7, tn8, tn9, tn10, tn11, tn12, bX12_forge_44]
      refine ⟨fun z => absurd z (by decide), fun _ => ⟨fun z => bad (fun q => q.2.2.1 z), fun g3 => p_isWoodR hT (fun g4 => ?_) (fun no => ?_)⟩⟩
      · dsimp only [x_int, x_lng, x_ild, x_lld, x_ald, x_ist, x_ast, x_lst, x_inc, x_ii, x_id, x_i, x_ll, x_ld, x_l, x_cmp, x_i2l, x_l2i, x_if, x_ic, x_dup, x_pop, x_dup2, x_gI, x_gL, x_gR, x_g1, x_g0, x_gP, x_pI, x_pZ, x_pL, x_pP, x_al, x_as, x_all, x_asl, x_alr, x_len, x_cpy, x_m2, x_m1, x_m2l, x_m1l, x_call, x_cv, x_ri, x_rz, x_rl, x_rv, zg, zset, zbef, zlong, zcat, cond_true, cond_false, List.take, List.drop, rv1, rv2, rv3, rv4, rv5, rv6, rv7, sm0, sm1, bl0, bl1, bl2, bl3, bl4, bl5, bl6, bl7, bl8, List.nil_append, List.cons_append, List.length_cons, List.length_nil, Nat.reduceBEq, Nat.reduceAdd, Nat.reduceSub, ta, tb, tn0, tn1, tn2, tn3, tn4, tn5, tn6, tn7, tn8, tn9, tn10, tn11, tn12, bX12_forge_44]
        refine ⟨fun z => absurd z (by decide), fun _ => p_isIn (fun g5 => ?_) (fun no => ?_)⟩
        · dsimp only [x_int, x_lng, x_ild, x_lld, x_ald, x_ist, x_ast, x_lst, x_inc, x_ii, x_id, x_i, x_ll, x_ld, x_l, x_cmp, x_i2l, x_l2i, x_if, x_ic, x_dup, x_pop, x_dup2, x_gI, x_gL, x_gR, x_g1, x_g0, x_gP, x_pI, x_pZ, x_pL, x_pP, x_al, x_as, x_all, x_asl, x_alr, x_len, x_cpy, x_m2, x_m1, x_m2l, x_m1l, x_call, x_cv, x_ri, x_rz, x_rl, x_rv, zg, zset, zbef, zlong, zcat, cond_true, cond_false, List.take, List.drop, rv1, rv2, rv3, rv4, rv5, rv6, rv7, sm0, sm1, bl0, bl1, bl2, bl3, bl4, bl5, bl6, bl7, bl8, List.nil_append, List.cons_append, List.length_cons, List.length_nil, Nat.reduceBEq, Nat.reduceAdd, Nat.reduceSub, ta, tb, tn0, tn1, tn2, tn3, tn4, tn5, tn6, tn7, tn8, tn9, tn10, tn11, tn12, bX12_forge_44]
          refine ⟨fun z => absurd z (by decide), fun _ => p_plainTried hp ?_⟩
          have good : okF A h o w x := ⟨g1, g2, g3, g4, g5⟩
          unfold v_forge at hK
          rw [if_pos good] at hK
          obtain ⟨a, rfl, ha⟩ := ok_of (by omega) g1
          obtain ⟨b, rfl, hb⟩ := ok_of (by omega) g2
          obtain ⟨y, rfl, hy⟩ := ok_of (by omega) g4
          rw [n_cl (n := a) (by omega), n_cl (n := b) (by omega), n_cl (n := y) (by omega)] at hK
          dsimp only [x_int, x_lng, x_ild, x_lld, x_ald, x_ist, x_ast, x_lst, x_inc, x_ii, x_id, x_i, x_ll, x_ld, x_l, x_cmp, x_i2l, x_l2i, x_if, x_ic, x_dup, x_pop, x_dup2, x_gI, x_gL, x_gR, x_g1, x_g0, x_gP, x_pI, x_pZ, x_pL, x_pP, x_al, x_as, x_all, x_asl, x_alr, x_len, x_cpy, x_m2, x_m1, x_m2l, x_m1l, x_call, x_cv, x_ri, x_rz, x_rl, x_rv, zg, zset, zbef, zlong, zcat, cond_true, cond_false, List.take, List.drop, rv1, rv2, rv3, rv4, rv5, rv6, rv7, sm0, sm1, bl0, bl1, bl2, bl3, bl4, bl5, bl6, bl7, bl8, List.nil_append, List.cons_append, List.length_cons, List.length_nil, Nat.reduceBEq, Nat.reduceAdd, Nat.reduceSub, ta, tb, tn0, tn1, tn2, tn3, tn4, tn5, tn6, tn7, tn8, tn9, tn10, tn11, tn12]
          refine zinv 4096 (fun i Z M => ∃ (I' : zI) (L' : zJ) (z8 z9 : Option zV), Z = [some refR, some (.inl (nI a)), some (.inl (nI b)), some (.inl (nI y)), some (.inl x), some (.inl (wbR (frg A.T A.S a b y i).1)), some (.inl (nI (frg A.T A.S a b y i).2)), some (.inl (nI i)), z8, z9] ∧ M = (I', L', P) ∧ frR I I' ∧ zeLr L L') ?_ ?_ ⟨I1, L, none, none, rfl, rfl, f1, zeLr.rf⟩
          · rintro i Z M hi ⟨I', L', z8, z9, rfl, rfl, q1, q2⟩ self hself
            dsimp only [x_int, x_lng, x_ild, x_lld, x_ald, x_ist, x_ast, x_lst, x_inc, x_ii, x_id, x_i, x_ll, x_ld, x_l, x_cmp, x_i2l, x_l2i, x_if, x_ic, x_dup, x_pop, x_dup2, x_gI, x_gL, x_gR, x_g1, x_g0, x_gP, x_pI, x_pZ, x_pL, x_pP, x_al, x_as, x_all, x_asl, x_alr, x_len, x_cpy, x_m2, x_m1, x_m2l, x_m1l, x_call, x_cv, x_ri, x_rz, x_rl, x_rv, zg, zset, zbef, zlong, zcat, cond_true, cond_false, List.take, List.drop, rv1, rv2, rv3, rv4, rv5, rv6, rv7, sm0, sm1, bl0, bl1, bl2, bl3, bl4, bl5, bl6, bl7, bl8, List.nil_append, List.cons_append, List.length_cons, List.length_nil, Nat.reduceBEq, Nat.reduceAdd, Nat.reduceSub, ta, tb, tn0, tn1, tn2, tn3, tn4, tn5, tn6, tn7, tn8, tn9, tn10, tn11, tn12]
            refine ⟨fun q => absurd q (lt_go (n := 4096) rfl (by omega) hi), fun _ => p_layAsked hi (fun I2 hI2 hd => ?_)⟩
            have q3 := q1.tr (fr1_R hI2)
            have hR2 := hR.q q3 q2
            have hT2 := hR2.1
            have f7 := (frg_7 (T := A.T) (S := A.S) (h := a) (o := b) (w := y) i).1
            have s := frg_s A.T A.S a b y i
            have c6 : chg A.T a i ≤ 6 := zcount_le _ 6
            dsimp only [x_int, x_lng, x_ild, x_lld, x_ald, x_ist, x_ast, x_lst, x_inc, x_ii, x_id, x_i, x_ll, x_ld, x_l, x_cmp, x_i2l, x_l2i, x_if, x_ic, x_dup, x_pop, x_dup2, x_gI, x_gL, x_gR, x_g1, x_g0, x_gP, x_pI, x_pZ, x_pL, x_pP, x_al, x_as, x_all, x_asl, x_alr, x_len, x_cpy, x_m2, x_m1, x_m2l, x_m1l, x_call, x_cv, x_ri, x_rz, x_rl, x_rv, zg, zset, zbef, zlong, zcat, cond_true, cond_false, List.take, List.drop, rv1, rv2, rv3, rv4, rv5, rv6, rv7, sm0, sm1, bl0, bl1, bl2, bl3, bl4, bl5, bl6, bl7, bl8, List.nil_append, List.cons_append, List.length_cons, List.length_nil, Nat.reduceBEq, Nat.reduceAdd, Nat.reduceSub, ta, tb, tn0, tn1, tn2, tn3, tn4, tn5, tn6, tn7, tn8, tn9, tn10, tn11, tn12]
            refine zinv 6 (fun k Z M => Z = [some refR, some (.inl (nI a)), some (.inl (nI b)), some (.inl (nI y)), some (.inl x), some (.inl (wbR (frg A.T A.S a b y i).1)), some (.inl (nI (frg A.T A.S a b y i).2)), some (.inl (nI i)), some (.inl (nI (zcount (chq A.T a i) k))), some (.inl (nI k))] ∧ M = (I2, L', P)) ?_ ?_ ⟨rfl, rfl⟩
            · rintro k Z M hk ⟨rfl, rfl⟩ self2 hself2
              dsimp only [x_int, x_lng, x_ild, x_lld, x_ald, x_ist, x_ast, x_lst, x_inc, x_ii, x_id, x_i, x_ll, x_ld, x_l, x_cmp, x_i2l, x_l2i, x_if, x_ic, x_dup, x_pop, x_dup2, x_gI, x_gL, x_gR, x_g1, x_g0, x_gP, x_pI, x_pZ, x_pL, x_pP, x_al, x_as, x_all, x_asl, x_alr, x_len, x_cpy, x_m2, x_m1, x_m2l, x_m1l, x_call, x_cv, x_ri, x_rz, x_rl, x_rv, zg, zset, zbef, zlong, zcat, cond_true, cond_false, List.take, List.drop, rv1, rv2, rv3, rv4, rv5, rv6, rv7, sm0, sm1, bl0, bl1, bl2, bl3, bl4, bl5, bl6, bl7, bl8, List.nil_append, List.cons_append, List.length_cons, List.length_nil, Nat.reduceBEq, Nat.reduceAdd, Nat.reduceSub, ta, tb, tn0, tn1, tn2, tn3, tn4, tn5, tn6, tn7, tn8, tn9, tn10, tn11, tn12, zk_87, zl_87, zk_58, zl_58, bX12_forge_116]
              rw [n6, n_cl (n := k) (by omega), n_cl (n := 6 * a + k) (by omega), hd k hk, (hT2.hand ha).2.2.2 k hk, n_succ k]
              refine ⟨fun q => absurd q (lt_go (n := 6) rfl (by omega) hk), fun _ => ⟨n_zin (by omega) (by decide), n_zin (by omega) (by decide), fun c => ?_, fun c => ?_⟩⟩
              · rw [zc_no (p := chq A.T a i) (i := k) (decide_eq_false (fun q => q c))]
                exact hself2 _ _ ⟨rfl, rfl⟩
              · rw [zc_yes (p := chq A.T a i) (i := k) (decide_eq_true c)]
                exact hself2 _ _ ⟨rfl, rfl⟩
            · rintro Z M ⟨rfl, rfl⟩ self2
              dsimp only [x_int, x_lng, x_ild, x_lld, x_ald, x_ist, x_ast, x_lst, x_inc, x_ii, x_id, x_i, x_ll, x_ld, x_l, x_cmp, x_i2l, x_l2i, x_if, x_ic, x_dup, x_pop, x_dup2, x_gI, x_gL, x_gR, x_g1, x_g0, x_gP, x_pI, x_pZ, x_pL, x_pP, x_al, x_as, x_all, x_asl, x_alr, x_len, x_cpy, x_m2, x_m1, x_m2l, x_m1l, x_call, x_cv, x_ri, x_rz, x_rl, x_rv, zg, zset, zbef, zlong, zcat, cond_true, cond_false, List.take, List.drop, rv1, rv2, rv3, rv4, rv5, rv6, rv7, sm0, sm1, bl0, bl1, bl2, bl3, bl4, bl5, bl6, bl7, bl8, List.nil_append, List.cons_append, List.length_cons, List.length_nil, Nat.reduceBEq, Nat.reduceAdd, Nat.reduceSub, ta, tb, tn0, tn1, tn2, tn3, tn4, tn5, tn6, tn7, tn8, tn9, tn10, tn11, tn12, bX12_forge_153]
              rw [n_succ i]
              refine ⟨fun _ => ⟨fun q => ?_, fun q => ?_⟩, fun q => absurd q (lt_out (n := 6) rfl)⟩
              · have q : nI (frg A.T A.S a b y i).2 ≤ nI (chg A.T a i) := q
                rw [n_le (by omega) (by omega)] at q
                rw [if_pos q] at s
                rw [← s]
                exact hself _ _ ⟨I2, L', _, _, rfl, rfl, q3, q2⟩
              · have q : ¬ nI (frg A.T A.S a b y i).2 ≤ nI (chg A.T a i) := q
                rw [n_le (by omega) (by omega)] at q
                rw [if_neg q] at s
                refine p_boundBy (b := 0) (by decide) hT2 hR2.2.1 wT wL hy hd (codK_sm i) (fun I3 L3 hI3 hL3 => ?_)
                have q4 := q3.tr (frE_R hI3)
                have q5 : zeLr L L3 := fun a b c z1 z2 => (hL3 a b c z1 z2).trans (q2 a b c z1 z2)
                dsimp only [x_int, x_lng, x_ild, x_lld, x_ald, x_ist, x_ast, x_lst, x_inc, x_ii, x_id, x_i, x_ll, x_ld, x_l, x_cmp, x_i2l, x_l2i, x_if, x_ic, x_dup, x_pop, x_dup2, x_gI, x_gL, x_gR, x_g1, x_g0, x_gP, x_pI, x_pZ, x_pL, x_pP, x_al, x_as, x_all, x_asl, x_alr, x_len, x_cpy, x_m2, x_m1, x_m2l, x_m1l, x_call, x_cv, x_ri, x_rz, x_rl, x_rv, zg, zset, zbef, zlong, zcat, cond_true, cond_false, List.take, List.drop, rv1, rv2, rv3, rv4, rv5, rv6, rv7, sm0, sm1, bl0, bl1, bl2, bl3, bl4, bl5, bl6, bl7, bl8, List.nil_append, List.cons_append, List.length_cons, List.length_nil, Nat.reduceBEq, Nat.reduceAdd, Nat.reduceSub, ta, tb, tn0, tn1, tn2, tn3, tn4, tn5, tn6, tn7, tn8, tn9, tn10, tn11, tn12, bX12_forge_153]
                have io := wbR_o (q := whof A.T A.S y (codK i)) (o := b) (n := A.T.1 0) (fun b e => whof_lt e) (by omega) hb
                refine ⟨fun c => ?_, fun c => ?_⟩
                · rw [if_pos (io.mp c)] at s
                  try rw [n_succ i]
                  refine hself _ _ ⟨I3, L3, some (.inl (nI (zcount (chq A.T a i) 6))), some (.inl (nI 6)), ?_, rfl, q4, q5⟩
                  rw [s]; rfl
                · rw [if_neg (fun e => c (io.mpr e))] at s
                  rw [← s]
                  try rw [n_succ i]
                  exact hself _ _ ⟨I3, L3, _, _, rfl, rfl, q4, q5⟩
          · rintro Z M ⟨I', L', z8, z9, rfl, rfl, q1, q2⟩ self
            dsimp only [x_int, x_lng, x_ild, x_lld, x_ald, x_ist, x_ast, x_lst, x_inc, x_ii, x_id, x_i, x_ll, x_ld, x_l, x_cmp, x_i2l, x_l2i, x_if, x_ic, x_dup, x_pop, x_dup2, x_gI, x_gL, x_gR, x_g1, x_g0, x_gP, x_pI, x_pZ, x_pL, x_pP, x_al, x_as, x_all, x_asl, x_alr, x_len, x_cpy, x_m2, x_m1, x_m2l, x_m1l, x_call, x_cv, x_ri, x_rz, x_rl, x_rv, zg, zset, zbef, zlong, zcat, cond_true, cond_false, List.take, List.drop, rv1, rv2, rv3, rv4, rv5, rv6, rv7, sm0, sm1, bl0, bl1, bl2, bl3, bl4, bl5, bl6, bl7, bl8, List.nil_append, List.cons_append, List.length_cons, List.length_nil, Nat.reduceBEq, Nat.reduceAdd, Nat.reduceSub, ta, tb, tn0, tn1, tn2, tn3, tn4, tn5, tn6, tn7, tn8, tn9, tn10, tn11, tn12, bX12_forge_192]
            refine ⟨fun _ => ?_, fun q => absurd q (lt_out (n := 4096) rfl)⟩
            have lt := (frg_7 (T := A.T) (S := A.S) (h := a) (o := b) (w := y) 4096).2
            revert hK lt
            generalize frg A.T A.S a b y 4096 = F
            obtain ⟨F1, F2⟩ := F
            intro hK lt
            cases F1 with
            | none => exact ⟨fun z => absurd z (show ¬ (0 : Int32) ≤ -1 by decide), fun _ => hK I' L' q1 q2⟩
            | some c =>
              have := lt c rfl
              refine ⟨fun _ => p_layAsked (by omega) (fun I2 hI2 hd => ?_), fun z => absurd (show nI 0 ≤ nI c by rw [n_le (by omega) (by omega)]; omega) z⟩
              have hk : K [.inl (if x = 0 then nI F2 else dgn (codK c) 6)] (I2, L', P) := hK I2 L' (q1.tr (fr1_R hI2)) q2
              dsimp only [x_int, x_lng, x_ild, x_lld, x_ald, x_ist, x_ast, x_lst, x_inc, x_ii, x_id, x_i, x_ll, x_ld, x_l, x_cmp, x_i2l, x_l2i, x_if, x_ic, x_dup, x_pop, x_dup2, x_gI, x_gL, x_gR, x_g1, x_g0, x_gP, x_pI, x_pZ, x_pL, x_pP, x_al, x_as, x_all, x_asl, x_alr, x_len, x_cpy, x_m2, x_m1, x_m2l, x_m1l, x_call, x_cv, x_ri, x_rz, x_rl, x_rv, zg, zset, zbef, zlong, zcat, cond_true, cond_false, List.take, List.drop, rv1, rv2, rv3, rv4, rv5, rv6, rv7, sm0, sm1, bl0, bl1, bl2, bl3, bl4, bl5, bl6, bl7, bl8, List.nil_append, List.cons_append, List.length_cons, List.length_nil, Nat.reduceBEq, Nat.reduceAdd, Nat.reduceSub, ta, tb, tn0, tn1, tn2, tn3, tn4, tn5, tn6, tn7, tn8, tn9, tn10, tn11, tn12, bX12_forge_192]
              refine ⟨fun e => ?_, fun e => p_digitsR (o := 0) rfl (by decide) (by decide) ?_⟩
              · rw [if_pos e] at hk; exact hk
              · rw [if_neg e] at hk
                rw [dgn_congr (f := fun k => I2 87 0 (0 + k)) (g := codK c) (fun k hk => by rw [Nat.zero_add]; exact hd k hk)]
                exact hk
        · dsimp only [x_int, x_lng, x_ild, x_lld, x_ald, x_ist, x_ast, x_lst, x_inc, x_ii, x_id, x_i, x_ll, x_ld, x_l, x_cmp, x_i2l, x_l2i, x_if, x_ic, x_dup, x_pop, x_dup2, x_gI, x_gL, x_gR, x_g1, x_g0, x_gP, x_pI, x_pZ, x_pL, x_pP, x_al, x_as, x_all, x_asl, x_alr, x_len, x_cpy, x_m2, x_m1, x_m2l, x_m1l, x_call, x_cv, x_ri, x_rz, x_rl, x_rv, zg, zset, zbef, zlong, zcat, cond_true, cond_false, List.take, List.drop, rv1, rv2, rv3, rv4, rv5, rv6, rv7, sm0, sm1, bl0, bl1, bl2, bl3, bl4, bl5, bl6, bl7, bl8, List.nil_append, List.cons_append, List.length_cons, List.length_nil, Nat.reduceBEq, Nat.reduceAdd, Nat.reduceSub, ta, tb, tn0, tn1, tn2, tn3, tn4, tn5, tn6, tn7, tn8, tn9, tn10, tn11, tn12, bX12_forge_44]
          exact ⟨fun _ => bad (fun z => no z.2.2.2.2), fun z => absurd rfl z⟩
      · dsimp only [x_int, x_lng, x_ild, x_lld, x_ald, x_ist, x_ast, x_lst, x_inc, x_ii, x_id, x_i, x_ll, x_ld, x_l, x_cmp, x_i2l, x_l2i, x_if, x_ic, x_dup, x_pop, x_dup2, x_gI, x_gL, x_gR, x_g1, x_g0, x_gP, x_pI, x_pZ, x_pL, x_pP, x_al, x_as, x_all, x_asl, x_alr, x_len, x_cpy, x_m2, x_m1, x_m2l, x_m1l, x_call, x_cv, x_ri, x_rz, x_rl, x_rv, zg, zset, zbef, zlong, zcat, cond_true, cond_false, List.take, List.drop, rv1, rv2, rv3, rv4, rv5, rv6, rv7, sm0, sm1, bl0, bl1, bl2, bl3, bl4, bl5, bl6, bl7, bl8, List.nil_append, List.cons_append, List.length_cons, List.length_nil, Nat.reduceBEq, Nat.reduceAdd, Nat.reduceSub, ta, tb, tn0, tn1, tn2, tn3, tn4, tn5, tn6, tn7, tn8, tn9, tn10, tn11, tn12, bX12_forge_44]
        exact ⟨fun _ => bad (fun z => no z.2.2.2.1), fun z => absurd rfl z⟩
    · dsimp only [x_int, x_lng, x_ild, x_lld, x_ald, x_ist, x_ast, x_lst, x_inc, x_ii, x_id, x_i, x_ll, x_ld, x_l, x_cmp, x_i2l, x_l2i, x_if, x_ic, x_dup, x_pop, x_dup2, x_gI, x_gL, x_gR, x_g1, x_g0, x_gP, x_pI, x_pZ, x_pL, x_pP, x_al, x_as, x_all, x_asl, x_alr, x_len, x_cpy, x_m2, x_m1, x_m2l, x_m1l, x_call, x_cv, x_ri, x_rz, x_rl, x_rv, zg, zset, zbef, zlong, zcat, cond_true, cond_false, List.take, List.drop, rv1, rv2, rv3, rv4, rv5, rv6, rv7, sm0, sm1, bl0, bl1, bl2, bl3, bl4, bl5, bl6, bl7, bl8, List.nil_append, List.cons_append, List.length_cons, List.length_nil, Nat.reduceBEq, Nat.reduceAdd, Nat.reduceSub, ta, tb, tn0, tn1, tn2, tn3, tn4, tn5, tn6, tn7, tn8, tn9, tn10, tn11, tn12, bX12_forge_44]
      exact ⟨fun _ => bad (fun z => no z.2.1), fun z => absurd rfl z⟩
  · dsimp only [x_int, x_lng, x_ild, x_lld, x_ald, x_ist, x_ast, x_lst, x_inc, x_ii, x_id, x_i, x_ll, x_ld, x_l, x_cmp, x_i2l, x_l2i, x_if, x_ic, x_dup, x_pop, x_dup2, x_gI, x_gL, x_gR, x_g1, x_g0, x_gP, x_pI, x_pZ, x_pL, x_pP, x_al, x_as, x_all, x_asl, x_alr, x_len, x_cpy, x_m2, x_m1, x_m2l, x_m1l, x_call, x_cv, x_ri, x_rz, x_rl, x_rv, zg, zset, zbef, zlong, zcat, cond_true, cond_false, List.take, List.drop, rv1, rv2, rv3, rv4, rv5, rv6, rv7, sm0, sm1, bl0, bl1, bl2, bl3, bl4, bl5, bl6, bl7, bl8, List.nil_append, List.cons_append, List.length_cons, List.length_nil, Nat.reduceBEq, Nat.reduceAdd, Nat.reduceSub, ta, tb, tn0, tn1, tn2, tn3, tn4, tn5, tn6, tn7, tn8, tn9, tn10, tn11, tn12, bX12_forge_44]
    exact ⟨fun _ => bad (fun z => no z.1), fun z => absurd rfl z⟩
