def kns : List (Int32 × Int32) := [(9, 4), (10, 3), (24, 11), (25, 12), (26, 13), (27, 14), (28, 5), (29, 6), (30, 7), (31, 8), (32, 9), (33, 10)]
def inB (x : Int64) : Prop := -1000000000000 ≤ x.toInt ∧ x.toInt ≤ 1000000000000
theorem inB_ne {x : Int64} (h : inB x) : ¬ x = zER := fun e => by
  have h1 := h.1
  rw [e] at h1
  exact absurd h1 (by decide)
theorem inB_0 : inB 0 := by unfold inB; decide
theorem inB_1 : inB 1 := by unfold inB; decide
theorem inB_i (x : Int32) : inB x.toInt64 := by
  have e : x.toInt64.toInt = x.toInt := Int32.toInt_toInt64 x
  have h1 := Int32.le_toInt x
  have h2 := Int32.toInt_lt x
  unfold inB
  rw [e]
  omega
theorem labs_rab (x : Int64) : labs x = rab x := by
  unfold labs rab
  by_cases h : 0 < x
  · rw [if_pos h, if_pos (Int64.le_of_lt h)]
  · rw [if_neg h]
    by_cases h2 : 0 ≤ x
    · rw [if_pos h2]
      have e : x = 0 := by
        apply Int64.toInt_inj.mp
        have a := Int64.le_iff_toInt_le.mp h2
        have b := Int64.le_iff_toInt_le.mp (Int64.not_lt.mp h)
        omega
      rw [e]; decide
    · rw [if_neg h2]
theorem rab_toInt {x : Int64} (h : inB x) : (rab x).toInt = (x.toInt.natAbs : Int) := by
  unfold rab
  by_cases q : 0 ≤ x
  · rw [if_pos q]
    have a := Int64.le_iff_toInt_le.mp q
    have e0 : (0 : Int64).toInt = 0 := rfl
    omega
  · rw [if_neg q, Int64.toInt_neg]
    have a : ¬ (0 : Int64).toInt ≤ x.toInt := fun z => q (Int64.le_iff_toInt_le.mpr z)
    have e0 : (0 : Int64).toInt = 0 := rfl
    have h1 := h.1
    have h2 := h.2
    rw [Int.bmod_eq_of_le (by omega) (by omega)]
    omega
theorem div_toInt {y : Int64} (h : inB y) (h0 : ¬ y = 0) : (1000000000000 / rab y).toInt = (1000000000000 : Int) / (y.toInt.natAbs : Int) := by
  rw [Int64.toInt_div, rab_toInt h]
  have e : (1000000000000 : Int64).toInt = 1000000000000 := rfl
  rw [e, Int.tdiv_eq_ediv_of_nonneg (by omega)]
  have hp : 0 < (y.toInt.natAbs : Int) := by
    have : ¬ y.toInt = 0 := fun z => h0 (Int64.toInt_inj.mp z)
    omega
  have h1 : (1000000000000 : Int) / (y.toInt.natAbs : Int) ≤ 1000000000000 := Int.ediv_le_self _ (by omega)
  have h2 : 0 ≤ (1000000000000 : Int) / (y.toInt.natAbs : Int) := Int.ediv_nonneg (by omega) (by omega)
  rw [Int.bmod_eq_of_le (by omega) (by omega)]
theorem mul_in {a b : Int64} (ha : inB a) (hb : inB b) (h0 : ¬ a = 0) (h : rab b ≤ 1000000000000 / rab a) : inB (a * b) := by
  have h := Int64.le_iff_toInt_le.mp h
  rw [rab_toInt hb, div_toInt ha h0] at h
  have hp : 0 < (a.toInt.natAbs : Int) := by
    have : ¬ a.toInt = 0 := fun z => h0 (Int64.toInt_inj.mp z)
    omega
  have h2 : (b.toInt.natAbs : Int) * (a.toInt.natAbs : Int) ≤ 1000000000000 := Int.le_trans (Int.mul_le_mul_of_nonneg_right h (by omega)) (Int.ediv_mul_le _ (by omega))
  have h3 : ((a.toInt * b.toInt).natAbs : Int) ≤ 1000000000000 := by
    rw [Int.natAbs_mul, Int.natCast_mul, Int.mul_comm]; exact h2
  unfold inB
  rw [Int64.toInt_mul, Int.bmod_eq_of_le (by omega) (by omega)]
  omega
theorem div_in {a b : Int64} (ha : inB a) (h0 : ¬ b = 0) : inB (a / b) := by
  have h1 : ((a.toInt.tdiv b.toInt).natAbs) ≤ a.toInt.natAbs := by
    rw [Int.natAbs_tdiv]; exact Nat.div_le_self _ _
  have h2 := ha.1
  have h3 := ha.2
  unfold inB
  rw [Int64.toInt_div, Int.bmod_eq_of_le (by omega) (by omega)]
  omega
theorem bnd_0 {n : Int64} : bnd 0 n = if 1000000000000 < n then (0, 1) else if -1000000000000 ≤ n then (n, 0) else (0, 1) := if_neg (fun q => q rfl)
theorem tms_0 {a b : Int64} : tms 0 a b = if a = 0 then (a * b, 0) else if b = 0 then (a * b, 0) else if rab b ≤ 1000000000000 / rab a then (a * b, 0) else (0, 1) := if_neg (fun q => q rfl)
theorem bnd_jn {n : Int64} : ((if 1000000000000 < n then zER else if -1000000000000 ≤ n then n else zER) = zER ∧ (bnd 0 n).2 = 1) ∨ (¬ (if 1000000000000 < n then zER else if -1000000000000 ≤ n then n else zER) = zER ∧ bnd 0 n = ((if 1000000000000 < n then zER else if -1000000000000 ≤ n then n else zER), 0) ∧ inB (if 1000000000000 < n then zER else if -1000000000000 ≤ n then n else zER)) := by
  rw [bnd_0]
  by_cases h1 : 1000000000000 < n
  · rw [if_pos h1, if_pos h1]; exact Or.inl ⟨rfl, rfl⟩
  · rw [if_neg h1, if_neg h1]
    by_cases h2 : -1000000000000 ≤ n
    · rw [if_pos h2, if_pos h2]
      have hb : inB n := by
        have a := Int64.le_iff_toInt_le.mp h2
        have b := Int64.le_iff_toInt_le.mp (Int64.not_lt.mp h1)
        have e1 : (-1000000000000 : Int64).toInt = -1000000000000 := rfl
        have e2 : (1000000000000 : Int64).toInt = 1000000000000 := rfl
        rw [e1] at a
        rw [e2] at b
        exact ⟨a, b⟩
      exact Or.inr ⟨inB_ne hb, rfl, hb⟩
    · rw [if_neg h2, if_neg h2]; exact Or.inl ⟨rfl, rfl⟩
theorem b01 {c : Prop} [Decidable c] : inB (if c then 0 else 1) ∧ inB (if c then 1 else 0) := by
  by_cases h : c
  · rw [if_pos h, if_pos h]; exact ⟨inB_0, inB_1⟩
  · rw [if_neg h, if_neg h]; exact ⟨inB_1, inB_0⟩
theorem r01 {c : Prop} [Decidable c] : (if (if c then (0 : Int32) else 1) = 0 then (0 : Int64) else 1) = if c then 0 else 1 := by
  by_cases h : c
  · rw [if_pos h, if_pos h, if_pos rfl]
  · rw [if_neg h, if_neg h, if_neg (by decide)]
theorem r10 {c : Prop} [Decidable c] : (if (if c then (1 : Int32) else 0) = 0 then (0 : Int64) else 1) = if c then 1 else 0 := by
  by_cases h : c
  · rw [if_pos h, if_pos h, if_neg (by decide)]
  · rw [if_neg h, if_neg h, if_pos rfl]
theorem jr {k' k : Int32} (hk : (k', k) ∈ kns) {a b : Int64} (ha : inB a) (hb : inB b) : (jn k' a b = zER ∧ (rjn k a b 0).2 = 1) ∨ (¬ jn k' a b = zER ∧ rjn k a b 0 = (jn k' a b, 0) ∧ inB (jn k' a b)) := by
  have ok : ∀ v : Int64, inB v → jn k' a b = v → rjn k a b 0 = (v, 0) → (jn k' a b = zER ∧ (rjn k a b 0).2 = 1) ∨ (¬ jn k' a b = zER ∧ rjn k a b 0 = (jn k' a b, 0) ∧ inB (jn k' a b)) := fun v h1 h2 h3 => Or.inr (by rw [h2, h3]; exact ⟨inB_ne h1, rfl, h1⟩)
  unfold kns at hk
  simp only [List.mem_cons, Prod.mk.injEq, List.not_mem_nil, or_false] at hk
  rcases hk with ⟨rfl, rfl⟩ | ⟨rfl, rfl⟩ | ⟨rfl, rfl⟩ | ⟨rfl, rfl⟩ | ⟨rfl, rfl⟩ | ⟨rfl, rfl⟩ | ⟨rfl, rfl⟩ | ⟨rfl, rfl⟩ | ⟨rfl, rfl⟩ | ⟨rfl, rfl⟩ | ⟨rfl, rfl⟩ | ⟨rfl, rfl⟩
  · refine ok _ ?_ rfl rfl
    by_cases h : a = 0
    · show inB (if a = 0 then _ else _)
      rw [if_pos h]; exact b01.1
    · show inB (if a = 0 then _ else _)
      rw [if_neg h]; exact inB_1
  · refine ok _ ?_ rfl rfl
    show inB (if a = 0 then _ else _)
    by_cases h : a = 0
    · rw [if_pos h]; exact inB_0
    · rw [if_neg h]; exact b01.1
  · exact bnd_jn
  · exact bnd_jn
  · show ((if a = 0 then a * b else if labs b ≤ 1000000000000 / labs a then a * b else zER) = zER ∧ (tms 0 a b).2 = 1) ∨ (¬ (if a = 0 then a * b else if labs b ≤ 1000000000000 / labs a then a * b else zER) = zER ∧ tms 0 a b = ((if a = 0 then a * b else if labs b ≤ 1000000000000 / labs a then a * b else zER), 0) ∧ inB (if a = 0 then a * b else if labs b ≤ 1000000000000 / labs a then a * b else zER))
    rw [labs_rab, labs_rab]
    rw [tms_0]
    by_cases h : a = 0
    · rw [if_pos h, if_pos h]
      have : inB (a * b) := by rw [h, Int64.zero_mul]; exact inB_0
      exact Or.inr ⟨inB_ne this, rfl, this⟩
    · rw [if_neg h, if_neg h]
      by_cases h2 : b = 0
      · rw [if_pos h2]
        have q : rab b ≤ 1000000000000 / rab a := by
          apply Int64.le_iff_toInt_le.mpr
          rw [rab_toInt hb, div_toInt ha h, h2]
          exact Int.ediv_nonneg (by omega) (by omega)
        rw [if_pos q]
        have := mul_in ha hb h q
        exact Or.inr ⟨inB_ne this, rfl, this⟩
      · rw [if_neg h2]
        by_cases q : rab b ≤ 1000000000000 / rab a
        · rw [if_pos q, if_pos q]
          have := mul_in ha hb h q
          exact Or.inr ⟨inB_ne this, rfl, this⟩
        · rw [if_neg q, if_neg q]; exact Or.inl ⟨rfl, rfl⟩
  · show ((if b = 0 then zER else a / b) = zER ∧ (if (0 : Int32) = 0 then (if b = 0 then ((0 : Int64), (1 : Int32)) else (a / b, 0)) else (0, 1)).2 = 1) ∨ (¬ (if b = 0 then zER else a / b) = zER ∧ (if (0 : Int32) = 0 then (if b = 0 then ((0 : Int64), (1 : Int32)) else (a / b, 0)) else (0, 1)) = ((if b = 0 then zER else a / b), 0) ∧ inB (if b = 0 then zER else a / b))
    rw [if_pos rfl]
    by_cases h : b = 0
    · rw [if_pos h, if_pos h]; exact Or.inl ⟨rfl, rfl⟩
    · rw [if_neg h, if_neg h]
      have := div_in ha h
      exact Or.inr ⟨inB_ne this, rfl, this⟩
  · exact ok (if b ≤ a then 0 else 1) b01.1 rfl (by show (_, _) = _; rw [show rcm 5 a b = if b ≤ a then 0 else 1 from rfl, r01])
  · exact ok (if b < a then 0 else 1) b01.1 rfl (by show (_, _) = _; rw [show rcm 6 a b = if b < a then 0 else 1 from rfl, r01])
  · exact ok (if a = b then 1 else 0) b01.2 rfl (by show (_, _) = _; rw [show rcm 7 a b = if a = b then 1 else 0 from rfl, r10])
  · exact ok (if a = b then 0 else 1) b01.1 rfl (by show (_, _) = _; rw [show rcm 8 a b = if a = b then 0 else 1 from rfl, r01])
  · exact ok (if a < b then 0 else 1) b01.1 rfl (by show (_, _) = _; rw [show rcm 9 a b = if a < b then 0 else 1 from rfl, r01])
  · exact ok (if a ≤ b then 0 else 1) b01.1 rfl (by show (_, _) = _; rw [show rcm 10 a b = if a ≤ b then 0 else 1 from rfl, r01])
theorem bnd_1 {n : Int64} : bnd 1 n = (0, 1) := if_pos (by decide)
theorem tms_1 {a b : Int64} : tms 1 a b = (0, 1) := if_pos (by decide)
theorem rjn_1 {k : Int32} {a b : Int64} : (rjn k a b 1).2 = 1 := by
  unfold rjn
  rw [bnd_1, bnd_1, tms_1, if_neg (show ¬ (1 : Int32) = 0 by decide)]
  repeat' split
  all_goals rfl

-- a law's knots beside its codes: p the place of the next one, st the places of the values that wait
def RK1 (I : zI) (p : Nat) (c : Int32) (st st' : List Nat) : Prop :=
  (¬ c < 0 ∧ I 69 0 p = 0 ∧ I 70 0 p = c ∧ st' = p :: st) ∨
  (c < 0 ∧ ¬ -c < 12 ∧ ¬ 18 < -c ∧ I 69 0 p = 1 ∧ I 70 0 p = -c - 12 ∧ st' = p :: st) ∨
  (c < 0 ∧ -c < 12 ∧ -c = 11 ∧ ∃ a r, st = a :: r ∧ I 69 0 p = 2 ∧ I 70 0 p = nI a ∧ st' = p :: r) ∨
  (c < 0 ∧ ∃ b a r k, st = b :: a :: r ∧ (-c, k) ∈ kns ∧ I 69 0 p = k ∧ I 70 0 p = nI a ∧ I 71 0 p = nI b ∧ st' = p :: r)
def RK (I : zI) : List Int32 → Nat → List Nat → Prop
  | [], p, st => ∃ q, p = q + 1 ∧ st = [q]
  | c :: cs, p, st => p < 64 ∧ ∃ st', RK1 I p c st st' ∧ RK I cs (p + 1) st'
theorem nmix {c : Int32} (g1 : ¬ -c < 12) (g2 : ¬ 18 < -c) : ∃ q, -c - 12 = nI q ∧ q < 7 := by
  obtain ⟨q, hq, hq2⟩ := n_of (x := -c) (n := 19) (by omega) (Int32.le_trans (by decide) (Int32.not_lt.mp g1)) (Int32.lt_of_le_of_lt (Int32.not_lt.mp g2) (by decide))
  rw [hq] at g1 ⊢
  have h12 : ¬ q < 12 := fun e => g1 ((n_lt (b := 12) (by omega) (by omega)).mpr e)
  refine ⟨q - 12, ?_, by omega⟩
  have e : q = (q - 12) + 12 := by omega
  rw [e, ← n_add]
  exact Int32.add_sub_cancel _ _
theorem RK.fr {I I' : zI} (e : ∀ a c, a = 69 ∨ a = 70 ∨ a = 71 → I' a 0 c = I a 0 c) : ∀ (cs : List Int32) (p : Nat) (st : List Nat), RK I cs p st → RK I' cs p st := by
  intro cs
  induction cs with
  | nil => intro p st h; exact h
  | cons c cs ih =>
    rintro p st ⟨h1, st', h2, h3⟩
    refine ⟨h1, st', ?_, ih _ _ h3⟩
    unfold RK1 at h2 ⊢
    rw [e 69 p (by simp), e 70 p (by simp), e 71 p (by simp)]
    exact h2
theorem kns_lev {c k : Int32} (h : (-c, k) ∈ kns) : ((-c < 12 ∧ ¬ -c = 11) ∨ (¬ -c < 12 ∧ 18 < -c)) ∧ ¬ k = 0 ∧ ¬ k = 1 ∧ ¬ k = 2 := by
  generalize -c = z at h ⊢
  unfold kns at h
  simp only [List.mem_cons, Prod.mk.injEq, List.not_mem_nil, or_false] at h
  rcases h with ⟨rfl, rfl⟩ | ⟨rfl, rfl⟩ | ⟨rfl, rfl⟩ | ⟨rfl, rfl⟩ | ⟨rfl, rfl⟩ | ⟨rfl, rfl⟩ | ⟨rfl, rfl⟩ | ⟨rfl, rfl⟩ | ⟨rfl, rfl⟩ | ⟨rfl, rfl⟩ | ⟨rfl, rfl⟩ | ⟨rfl, rfl⟩ <;> decide
theorem levb_eq {nm : Nat → Int64} {c k : Int32} {cs : List Int32} {st : List Int64} (hc : c < 0) (h : (-c, k) ∈ kns) : lev nm (c :: cs) st = levb nm c cs st := by
  rcases (kns_lev h).1 with ⟨a, b⟩ | ⟨a, b⟩
  · exact lev_lo hc a b
  · exact lev_hi hc a b
set_option maxHeartbeats 2000000 in
theorem p_lawOf {K : zQ} {I : zI} {L : zJ} {P : zP} {w a : Nat} {cs : List Int32} {nm : Nat → Int64} (hw : w < 3) (hf : I 67 0 w = nI a) (hl : I 68 0 w = nI (a + cs.length)) (hRK : RK I cs a []) (hle : a + cs.length ≤ 64) (hn : ∀ q, q < 7 → L 74 0 q = nm q) (hnB : ∀ q, q < 7 → inB (nm q))
    (hK : ∀ (I' : zI) (L' : zJ) (v : Int64), frE I I' → zeL L L' 75 → ((lev nm cs [] = zER ∧ I' 12 0 49 = 1) ∨ (¬ lev nm cs [] = zER ∧ I' 12 0 49 = 0 ∧ v = lev nm cs [])) → K [.inr (.inl v)] (I', L', P)) : mX12_lawOf K [.inr (.inr (12, 0)), .inl (nI w)] (I, L, P) := by
  have zw : zin (nI w) 6 := n_zin (by omega) (by decide)
  show bX12_lawOf_0 K [some (.inr (.inr (12,0))), some (.inl (nI w)), none] [] (I, L, P)
  unfold bX12_lawOf_0
  dsimp only [x_int, x_lng, x_ild, x_lld, x_ald, x_ist, x_ast, x_lst, x_inc, x_ii, x_id, x_i, x_ll, x_ld, x_l, x_cmp, x_i2l, x_l2i, x_if, x_ic, x_dup, x_pop, x_dup2, x_gI, x_gL, x_gR, x_g1, x_g0, x_gP, x_pI, x_pZ, x_pL, x_pP, x_al, x_as, x_all, x_asl, x_alr, x_len, x_cpy, x_m2, x_m1, x_m2l, x_m1l, x_call, x_cv, x_ri, x_rz, x_rl, x_rv, zg, zset, zbef, zlong, zcat, cond_true, cond_false, List.take, List.drop, rv1, rv2, rv3, rv4, rv5, rv6, rv7, sm0, sm1, bl0, bl1, bl2, bl3, bl4, bl5, bl6, bl7, bl8, List.nil_append, List.cons_append, List.length_cons, List.length_nil, Nat.reduceBEq, Nat.reduceAdd, Nat.reduceSub, ta, tb, tn0, tn1, tn2, tn3, tn4, tn5, tn6, tn7, tn8, tn9, tn10, tn11, tn12, zk_67, zl_67]
  have hf0 : (zsI (I, L, P) 12 0 49 0).1 67 0 (nI w).toNatClampNeg = nI a := by
    rw [n_cl (n := w) (by omega)]
    exact (frE_set 67 0 w (by simp)).trans hf
  rw [hf0]
  refine ⟨Or.inl rfl, zw, ?_⟩
  refine zinv cs.length (fun i Z M => ∃ (I' : zI) (L' : zJ) (st : List Nat), Z = [some (.inr (.inr (12, 0))), some (.inl (nI w)), some (.inl (nI (a + i)))] ∧ M = (I', L', P) ∧ frE I I' ∧ zeL L L' 75 ∧ RK I (cs.drop i) (a + i) st ∧ (∀ q ∈ st, q < a + i) ∧ ((I' 12 0 49 = 1 ∧ lev nm cs [] = zER) ∨ (I' 12 0 49 = 0 ∧ lev nm (cs.drop i) (st.map (L' 75 0)) = lev nm cs [] ∧ ∀ q ∈ st, inB (L' 75 0 q)))) ?_ ?_ ⟨(zsI (I, L, P) 12 0 49 0).1, L, [], rfl, rfl, frE_set, fun _ _ _ _ => rfl, hRK, fun q hq => absurd hq List.not_mem_nil, Or.inr ⟨frE_get (I := I) (L := L) (P := P), rfl, fun q hq => absurd hq List.not_mem_nil⟩⟩
  · rintro i Z M hi ⟨I', L', st, rfl, rfl, hI, hL, hrk, hst, hinv⟩ self hself
    have hd : cs.drop i = cs.getD i 0 :: cs.drop (i + 1) := by
      rw [List.drop_eq_getElem_cons hi, List.getD_eq_getElem?_getD, List.getElem?_eq_getElem hi]
      rfl
    rw [hd] at hrk hinv
    generalize cs.getD i 0 = c at hrk hinv
    generalize cs.drop (i + 1) = rest at *
    obtain ⟨hp, st', h1, hrk'⟩ := hrk
    have zp : zin (nI (a + i)) 64 := n_zin hp (by decide)
    have e6 : ∀ k x, k = 69 ∨ k = 70 ∨ k = 71 → I' k 0 x = I k 0 x := fun k x hk => hI k 0 x (fun q => by rcases hk with h | h | h <;> rw [h] at q <;> exact absurd q.1 (by decide))
    have h1' : RK1 I' (a + i) c st st' := by
      unfold RK1 at h1 ⊢
      rw [e6 69 _ (by simp), e6 70 _ (by simp), e6 71 _ (by simp)]
      exact h1
    have hlast : I' 68 0 w = nI (a + cs.length) := (hI 68 0 w (by simp)).trans hl
    -- behind the value
    have go : ∀ (I2 : zI) (v : Int64), frE I' I2 → (∃ r, st' = (a + i) :: r ∧ ∀ q ∈ r, q ∈ st) → ((I2 12 0 49 = 1 ∧ lev nm cs [] = zER) ∨ (I2 12 0 49 = 0 ∧ inB v ∧ (∀ q ∈ st', q ≠ a + i → inB (L' 75 0 q)) ∧ lev nm rest (v :: (st'.tail.map (L' 75 0))) = lev nm cs [])) → self [some (.inr (.inr (12, 0))), some (.inl (nI w)), some (.inl (nI (a + i) + 1))] [] (zsL (I2, L', P) 75 0 (a + i) v) := by
      intro I2 v hI2 ⟨r, hr, hrs⟩ h2
      rw [n_succ]
      have rd : ∀ q, q ∈ r → (if 75 = 75 ∧ 0 = 0 ∧ q = a + i then v else L' 75 0 q) = L' 75 0 q := fun q hq => if_neg (fun z => by have := hst q (hrs q hq); omega)
      refine hself _ _ ⟨I2, (zsL (I2, L', P) 75 0 (a + i) v).2.1, st', by rw [Nat.add_assoc], rfl, hI.tr hI2, fun x y z hx => ?_, by rw [← Nat.add_assoc]; exact hrk', fun q hq => ?_, ?_⟩
      · show (if x = 75 ∧ y = 0 ∧ z = a + i then v else L' x y z) = _
        rw [if_neg (fun q => hx q.1)]; exact hL x y z hx
      · rw [hr] at hq
        rcases List.mem_cons.mp hq with rfl | hq
        · omega
        · have := hst q (hrs q hq); omega
      · rcases h2 with ⟨g1, g2⟩ | ⟨g1, g2, g3, g4⟩
        · exact Or.inl ⟨g1, g2⟩
        · refine Or.inr ⟨g1, ?_, fun q hq => ?_⟩
          · rw [← g4, hr]
            show lev nm rest ((if 75 = 75 ∧ 0 = 0 ∧ a + i = a + i then v else L' 75 0 (a + i)) :: r.map _) = _
            rw [if_pos ⟨rfl, rfl, rfl⟩]
            congr 2
            exact List.map_congr_left (fun q hq => rd q hq)
          · show inB (if 75 = 75 ∧ 0 = 0 ∧ q = a + i then v else L' 75 0 q)
            by_cases e : q = a + i
            · rw [if_pos ⟨rfl, rfl, e⟩]; exact g2
            · rw [if_neg (fun z => e z.2.2)]; exact g3 q hq e
    dsimp only [x_int, x_lng, x_ild, x_lld, x_ald, x_ist, x_ast, x_lst, x_inc, x_ii, x_id, x_i, x_ll, x_ld, x_l, x_cmp, x_i2l, x_l2i, x_if, x_ic, x_dup, x_pop, x_dup2, x_gI, x_gL, x_gR, x_g1, x_g0, x_gP, x_pI, x_pZ, x_pL, x_pP, x_al, x_as, x_all, x_asl, x_alr, x_len, x_cpy, x_m2, x_m1, x_m2l, x_m1l, x_call, x_cv, x_ri, x_rz, x_rl, x_rv, zg, zset, zbef, zlong, zcat, cond_true, cond_false, List.take, List.drop, rv1, rv2, rv3, rv4, rv5, rv6, rv7, sm0, sm1, bl0, bl1, bl2, bl3, bl4, bl5, bl6, bl7, bl8, List.nil_append, List.cons_append, List.length_cons, List.length_nil, Nat.reduceBEq, Nat.reduceAdd, Nat.reduceSub, ta, tb, tn0, tn1, tn2, tn3, tn4, tn5, tn6, tn7, tn8, tn9, tn10, tn11, tn12, zk_68, zl_68, zk_75, zl_75]
    rw [n_cl (n := w) (by omega), hlast]
    refine ⟨zw, fun q => absurd q (by rw [n_le (by omega) (by omega)]; omega), fun _ => p_valueOf (by omega) (fun k0 => ?_) (fun k1 => ?_) (fun k2 => ?_) (fun k0 k1 k2 => ?_)⟩
    · dsimp only [x_int, x_lng, x_ild, x_lld, x_ald, x_ist, x_ast, x_lst, x_inc, x_ii, x_id, x_i, x_ll, x_ld, x_l, x_cmp, x_i2l, x_l2i, x_if, x_ic, x_dup, x_pop, x_dup2, x_gI, x_gL, x_gR, x_g1, x_g0, x_gP, x_pI, x_pZ, x_pL, x_pP, x_al, x_as, x_all, x_asl, x_alr, x_len, x_cpy, x_m2, x_m1, x_m2l, x_m1l, x_call, x_cv, x_ri, x_rz, x_rl, x_rv, zg, zset, zbef, zlong, zcat, cond_true, cond_false, List.take, List.drop, rv1, rv2, rv3, rv4, rv5, rv6, rv7, sm0, sm1, bl0, bl1, bl2, bl3, bl4, bl5, bl6, bl7, bl8, List.nil_append, List.cons_append, List.length_cons, List.length_nil, Nat.reduceBEq, Nat.reduceAdd, Nat.reduceSub, ta, tb, tn0, tn1, tn2, tn3, tn4, tn5, tn6, tn7, tn8, tn9, tn10, tn11, tn12, zk_75, zl_75]
      rw [n_cl (n := a + i) (by omega)]
      refine ⟨zp, ?_⟩
      rcases h1' with ⟨c0, c1, c2, c3⟩ | ⟨-, -, -, c1, -⟩ | ⟨-, -, -, x, r, -, c1, -⟩ | ⟨-, b, x, r, k, -, ck, c1, -⟩
      · rw [c2]
        refine go I' _ frE.rf ⟨st, c3, fun q h => h⟩ ?_
        rcases hinv with g | ⟨g1, g2, g3⟩
        · exact Or.inl g
        · refine Or.inr ⟨g1, inB_i c, fun q hq hne => ?_, ?_⟩
          · rw [c3] at hq
            exact g3 q ((List.mem_cons.mp hq).resolve_left hne)
          · rw [c3, ← g2, lev_push c0]; rfl
      · rw [k0] at c1; exact absurd c1 (by decide)
      · rw [k0] at c1; exact absurd c1 (by decide)
      · rw [k0] at c1; exact absurd c1.symm (kns_lev ck).2.1
    · rcases h1' with ⟨-, c1, -⟩ | ⟨c0, d1, d2, c1, c2, c3⟩ | ⟨-, -, -, x, r, -, c1, -⟩ | ⟨-, b, x, r, k, -, ck, c1, -⟩
      · rw [k1] at c1; exact absurd c1 (by decide)
      · obtain ⟨q, hq, hq7⟩ := nmix d1 d2
        rw [c2, hq, n_cl (n := q) (by omega)]
        refine ⟨n_zin hq7 (by decide), ?_⟩
        dsimp only [x_int, x_lng, x_ild, x_lld, x_ald, x_ist, x_ast, x_lst, x_inc, x_ii, x_id, x_i, x_ll, x_ld, x_l, x_cmp, x_i2l, x_l2i, x_if, x_ic, x_dup, x_pop, x_dup2, x_gI, x_gL, x_gR, x_g1, x_g0, x_gP, x_pI, x_pZ, x_pL, x_pP, x_al, x_as, x_all, x_asl, x_alr, x_len, x_cpy, x_m2, x_m1, x_m2l, x_m1l, x_call, x_cv, x_ri, x_rz, x_rl, x_rv, zg, zset, zbef, zlong, zcat, cond_true, cond_false, List.take, List.drop, rv1, rv2, rv3, rv4, rv5, rv6, rv7, sm0, sm1, bl0, bl1, bl2, bl3, bl4, bl5, bl6, bl7, bl8, List.nil_append, List.cons_append, List.length_cons, List.length_nil, Nat.reduceBEq, Nat.reduceAdd, Nat.reduceSub, ta, tb, tn0, tn1, tn2, tn3, tn4, tn5, tn6, tn7, tn8, tn9, tn10, tn11, tn12, zk_75, zl_75]
        rw [n_cl (n := a + i) (by omega)]
        refine ⟨zp, ?_⟩
        rw [hL 74 0 q (by decide), hn q hq7]
        refine go I' _ frE.rf ⟨st, c3, fun q h => h⟩ ?_
        rcases hinv with g | ⟨g1, g2, g3⟩
        · exact Or.inl g
        · refine Or.inr ⟨g1, hnB q hq7, fun q hq hne => ?_, ?_⟩
          · rw [c3] at hq
            exact g3 q ((List.mem_cons.mp hq).resolve_left hne)
          · rw [c3, ← g2, lev_name c0 d1 d2, hq, n_cl (n := q) (by omega)]; rfl
      · rw [k1] at c1; exact absurd c1 (by decide)
      · rw [k1] at c1; exact absurd c1.symm (kns_lev ck).2.2.1
    · rcases h1' with ⟨-, c1, -⟩ | ⟨-, -, -, c1, -⟩ | ⟨c0, d1, d2, x, r, cs9, c1, c2, c3⟩ | ⟨-, b, x, r, k, -, ck, c1, -⟩
      · rw [k2] at c1; exact absurd c1 (by decide)
      · rw [k2] at c1; exact absurd c1 (by decide)
      · have hx : x < a + i := hst x (by rw [cs9]; exact List.mem_cons_self)
        rw [c2, n_cl (n := x) (by omega)]
        refine ⟨n_zin (by omega) (by decide), ?_⟩
        dsimp only [x_int, x_lng, x_ild, x_lld, x_ald, x_ist, x_ast, x_lst, x_inc, x_ii, x_id, x_i, x_ll, x_ld, x_l, x_cmp, x_i2l, x_l2i, x_if, x_ic, x_dup, x_pop, x_dup2, x_gI, x_gL, x_gR, x_g1, x_g0, x_gP, x_pI, x_pZ, x_pL, x_pP, x_al, x_as, x_all, x_asl, x_alr, x_len, x_cpy, x_m2, x_m1, x_m2l, x_m1l, x_call, x_cv, x_ri, x_rz, x_rl, x_rv, zg, zset, zbef, zlong, zcat, cond_true, cond_false, List.take, List.drop, rv1, rv2, rv3, rv4, rv5, rv6, rv7, sm0, sm1, bl0, bl1, bl2, bl3, bl4, bl5, bl6, bl7, bl8, List.nil_append, List.cons_append, List.length_cons, List.length_nil, Nat.reduceBEq, Nat.reduceAdd, Nat.reduceSub, ta, tb, tn0, tn1, tn2, tn3, tn4, tn5, tn6, tn7, tn8, tn9, tn10, tn11, tn12, zk_75, zl_75]
        rw [n_cl (n := a + i) (by omega)]
        refine ⟨zp, go I' _ frE.rf ⟨r, c3, fun q h => by rw [cs9]; exact List.mem_cons_of_mem _ h⟩ ?_⟩
        rcases hinv with g | ⟨g1, g2, g3⟩
        · exact Or.inl g
        · refine Or.inr ⟨g1, b01.2, fun q hq hne => ?_, ?_⟩
          · rw [c3] at hq
            exact g3 q (by rw [cs9]; exact List.mem_cons_of_mem _ ((List.mem_cons.mp hq).resolve_left hne))
          · rw [c3, ← g2, cs9]
            exact (lev_not c0 d1 d2).symm
      · rw [k2] at c1; exact absurd c1.symm (kns_lev ck).2.2.2
    · rcases h1' with ⟨-, c1, -⟩ | ⟨-, -, -, c1, -⟩ | ⟨-, -, -, x, r, -, c1, -⟩ | ⟨c0, b, x, r, k, cs9, ck, c1, c2, c4, c3⟩
      · exact absurd c1 k0
      · exact absurd c1 k1
      · exact absurd c1 k2
      · have hb : b < a + i := hst b (by rw [cs9]; exact List.mem_cons_self)
        have hx : x < a + i := hst x (by rw [cs9]; exact List.mem_cons_of_mem _ List.mem_cons_self)
        rw [c2, c4, c1, n_cl (n := x) (by omega), n_cl (n := b) (by omega)]
        refine ⟨n_zin (by omega) (by decide), n_zin (by omega) (by decide), fun I2 hI2 he2 => ?_⟩
        dsimp only [x_int, x_lng, x_ild, x_lld, x_ald, x_ist, x_ast, x_lst, x_inc, x_ii, x_id, x_i, x_ll, x_ld, x_l, x_cmp, x_i2l, x_l2i, x_if, x_ic, x_dup, x_pop, x_dup2, x_gI, x_gL, x_gR, x_g1, x_g0, x_gP, x_pI, x_pZ, x_pL, x_pP, x_al, x_as, x_all, x_asl, x_alr, x_len, x_cpy, x_m2, x_m1, x_m2l, x_m1l, x_call, x_cv, x_ri, x_rz, x_rl, x_rv, zg, zset, zbef, zlong, zcat, cond_true, cond_false, List.take, List.drop, rv1, rv2, rv3, rv4, rv5, rv6, rv7, sm0, sm1, bl0, bl1, bl2, bl3, bl4, bl5, bl6, bl7, bl8, List.nil_append, List.cons_append, List.length_cons, List.length_nil, Nat.reduceBEq, Nat.reduceAdd, Nat.reduceSub, ta, tb, tn0, tn1, tn2, tn3, tn4, tn5, tn6, tn7, tn8, tn9, tn10, tn11, tn12, zk_75, zl_75]
        rw [n_cl (n := a + i) (by omega)]
        refine ⟨zp, go I2 _ hI2 ⟨r, c3, fun q h => by rw [cs9]; exact List.mem_cons_of_mem _ (List.mem_cons_of_mem _ h)⟩ ?_⟩
        rcases hinv with ⟨g1, g2⟩ | ⟨g1, g2, g3⟩
        · rw [g1, rjn_1] at he2
          exact Or.inl ⟨he2, g2⟩
        · rw [g1] at he2 ⊢
          rw [cs9] at g2 g3
          have ix := g3 x (List.mem_cons_of_mem _ List.mem_cons_self)
          have ib := g3 b List.mem_cons_self
          rw [levb_eq c0 ck] at g2
          have g2 : (if jn (-c) (L' 75 0 x) (L' 75 0 b) = zER then zER else lev nm rest (jn (-c) (L' 75 0 x) (L' 75 0 b) :: r.map (L' 75 0))) = lev nm cs [] := g2
          rcases jr ck ix ib with ⟨j1, j2⟩ | ⟨j1, j2, j3⟩
          · rw [j2] at he2
            rw [if_pos j1] at g2
            exact Or.inl ⟨he2, g2.symm⟩
          · rw [j2] at he2 ⊢
            rw [if_neg j1] at g2
            refine Or.inr ⟨he2, j3, fun q hq hne => ?_, ?_⟩
            · rw [c3] at hq
              exact g3 q (List.mem_cons_of_mem _ (List.mem_cons_of_mem _ ((List.mem_cons.mp hq).resolve_left hne)))
            · rw [c3, ← g2]; rfl
  · rintro Z M ⟨I', L', st, rfl, rfl, hI, hL, hrk, hst, hinv⟩ self
    rw [List.drop_length] at hrk hinv
    obtain ⟨q, hq, rfl⟩ := hrk
    have hlast : I' 68 0 w = nI (a + cs.length) := (hI 68 0 w (by simp)).trans hl
    dsimp only [x_int, x_lng, x_ild, x_lld, x_ald, x_ist, x_ast, x_lst, x_inc, x_ii, x_id, x_i, x_ll, x_ld, x_l, x_cmp, x_i2l, x_l2i, x_if, x_ic, x_dup, x_pop, x_dup2, x_gI, x_gL, x_gR, x_g1, x_g0, x_gP, x_pI, x_pZ, x_pL, x_pP, x_al, x_as, x_all, x_asl, x_alr, x_len, x_cpy, x_m2, x_m1, x_m2l, x_m1l, x_call, x_cv, x_ri, x_rz, x_rl, x_rv, zg, zset, zbef, zlong, zcat, cond_true, cond_false, List.take, List.drop, rv1, rv2, rv3, rv4, rv5, rv6, rv7, sm0, sm1, bl0, bl1, bl2, bl3, bl4, bl5, bl6, bl7, bl8, List.nil_append, List.cons_append, List.length_cons, List.length_nil, Nat.reduceBEq, Nat.reduceAdd, Nat.reduceSub, ta, tb, tn0, tn1, tn2, tn3, tn4, tn5, tn6, tn7, tn8, tn9, tn10, tn11, tn12, zk_68, zl_68, zk_75, zl_75, bX12_lawOf_63]
    rw [n_cl (n := w) (by omega), hlast]
    refine ⟨zw, fun _ => ⟨fun c => ?_, fun c => ?_⟩, fun c => absurd (Int32.le_refl _) c⟩
    · rcases hinv with ⟨g1, -⟩ | ⟨g1, g2, g3⟩
      · rw [g1] at c; exact absurd c (by decide)
      · rw [hq, n_pred]
        refine ⟨zw, n_zin (by omega) (by decide), ?_⟩
        rw [n_cl (by omega)]
        have hv : L' 75 0 q = lev nm cs [] := g2
        exact hK I' L' _ hI hL (Or.inr ⟨by rw [← hv]; exact inB_ne (g3 q (List.mem_singleton.mpr rfl)), g1, hv⟩)
    · rcases hinv with ⟨g1, g2⟩ | ⟨g1, g2, g3⟩
      · exact hK I' L' _ hI hL (Or.inl ⟨g2, g1⟩)
      · exact absurd g1 c
