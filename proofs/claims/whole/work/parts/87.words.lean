-- words, by letters and by bits
def FRt : List Nat := [0, 5, 10, 14, 19, 24, 28, 34, 39, 44, 48, 51, 55, 60, 65, 70, 75, 81, 86, 90]
def FRk (k : Nat) : Nat := FRt.getD k 0
def LNk (k : Nat) : Nat := FRk (k + 1) - FRk k - 1
abbrev mtP (B : Nat → Nat) (a b k : Nat) : Prop := LNk k = b - a ∧ ∀ j, j < LNk k → wrdR.getD (FRk k + j) 0 = nI (B (a + j))
def wat (B : Nat → Nat) (a b : Nat) : Nat → Option Nat
  | 0 => none
  | k + 1 => match wat B a b k with
    | some q => some q
    | none => if mtP B a b k then some k else none
theorem FR_s : ∀ k, k < 19 → FRk (k + 1) = FRk k + LNk k + 1 ∧ LNk k ≤ 5 ∧ 2 ≤ LNk k ∧ FRk (k + 1) ≤ 90 := by decide
theorem FR_n : ∀ k, k < 19 → ∀ n, n < LNk k → ¬ wrdR.getD (FRk k + n) 0 = 32 := by decide
theorem FR_e : ∀ k, k < 19 → wrdR.getD (FRk k + LNk k) 0 = 32 := by decide
theorem FR_z : ∀ k, k < 19 → FRk k < 90 := by decide
theorem p_wordAt {K : zQ} {I : zI} {L : zJ} {P : zP} {B : Nat → Nat} {a b n : Nat} (hw : ∀ i, i < 90 → I 52 0 i = wrdR.getD i 0) (hB : ∀ i, i < n → I 51 0 i = nI (B i)) (hab : a ≤ b) (hbn : b ≤ n) (hn : n ≤ 700) (hK : K [.inl (wbR (wat B a b 19))] (I, L, P)) : mX12_wordAt K [refR, .inl (nI a), .inl (nI b)] (I, L, P) := by
  show bX12_wordAt_5 K [some refR, some (.inl (nI a)), some (.inl (nI b)), some (.inl 0), some (.inl 0), none, none, none] [] (I, L, P)
  refine zinv 19 (fun k Z M => ∃ z5 z6 z7 : Option zV, Z = [some refR, some (.inl (nI a)), some (.inl (nI b)), some (.inl (nI k)), some (.inl (nI (FRk k))), z5, z6, z7] ∧ M = (I, L, P) ∧ wat B a b k = none) ?_ ?_ ⟨none, none, none, rfl, rfl, rfl⟩
  · rintro k Z M hk ⟨z5, z6, z7, rfl, rfl, hno⟩ self hself
    obtain ⟨s1, s2, s3, s4⟩ := FR_s k hk
    have f90 := FR_z k hk
    have sw : wat B a b (k + 1) = if mtP B a b k then some k else none := by
      show (match wat B a b k with
        | some q => some q
        | none => if mtP B a b k then some k else none) = _
      rw [hno]
    dsimp only [x_int, x_lng, x_ild, x_lld, x_ald, x_ist, x_ast, x_lst, x_inc, x_ii, x_id, x_i, x_ll, x_ld, x_l, x_cmp, x_i2l, x_l2i, x_if, x_ic, x_dup, x_pop, x_dup2, x_gI, x_gL, x_gR, x_g1, x_g0, x_gP, x_pI, x_pZ, x_pL, x_pP, x_al, x_as, x_all, x_asl, x_alr, x_len, x_cpy, x_m2, x_m1, x_m2l, x_m1l, x_call, x_cv, x_ri, x_rz, x_rl, x_rv, zg, zset, zbef, zlong, zcat, cond_true, cond_false, List.take, List.drop, rv1, rv2, rv3, rv4, rv5, rv6, rv7, sm0, sm1, bl0, bl1, bl2, bl3, bl4, bl5, bl6, bl7, bl8, List.nil_append, List.cons_append, List.length_cons, List.length_nil, Nat.reduceBEq, Nat.reduceAdd, Nat.reduceSub, ta, tb, tn0, tn1, tn2, tn3, tn4, tn5, tn6, tn7, tn8, tn9, tn10, tn11, tn12, zl_52]
    refine ⟨fun q => ?_, fun _ => ?_⟩
    · have q : nI 90 ≤ nI (FRk k) := q
      rw [n_le (by omega) (by omega)] at q
      omega
    refine zinv (LNk k) (fun j Z M => Z = [some refR, some (.inl (nI a)), some (.inl (nI b)), some (.inl (nI k)), some (.inl (nI (FRk k))), some (.inl (nI j)), z6, z7] ∧ M = (I, L, P)) ?_ ?_ ⟨rfl, rfl⟩
    · rintro j Z M hj ⟨rfl, rfl⟩ self2 hself2
      dsimp only [x_int, x_lng, x_ild, x_lld, x_ald, x_ist, x_ast, x_lst, x_inc, x_ii, x_id, x_i, x_ll, x_ld, x_l, x_cmp, x_i2l, x_l2i, x_if, x_ic, x_dup, x_pop, x_dup2, x_gI, x_gL, x_gR, x_g1, x_g0, x_gP, x_pI, x_pZ, x_pL, x_pP, x_al, x_as, x_all, x_asl, x_alr, x_len, x_cpy, x_m2, x_m1, x_m2l, x_m1l, x_call, x_cv, x_ri, x_rz, x_rl, x_rv, zg, zset, zbef, zlong, zcat, cond_true, cond_false, List.take, List.drop, rv1, rv2, rv3, rv4, rv5, rv6, rv7, sm0, sm1, bl0, bl1, bl2, bl3, bl4, bl5, bl6, bl7, bl8, List.nil_append, List.cons_append, List.length_cons, List.length_nil, Nat.reduceBEq, Nat.reduceAdd, Nat.reduceSub, ta, tb, tn0, tn1, tn2, tn3, tn4, tn5, tn6, tn7, tn8, tn9, tn10, tn11, tn12, zk_52, zl_52]
      rw [n_add, n_cl (n := FRk k + j) (by omega), hw _ (by omega), n_succ j]
      exact ⟨n_zin (by omega) (by decide), fun q => absurd q (FR_n k hk j hj), fun _ => hself2 _ _ ⟨rfl, rfl⟩⟩
    rintro Z M ⟨rfl, rfl⟩ self2
    dsimp only [x_int, x_lng, x_ild, x_lld, x_ald, x_ist, x_ast, x_lst, x_inc, x_ii, x_id, x_i, x_ll, x_ld, x_l, x_cmp, x_i2l, x_l2i, x_if, x_ic, x_dup, x_pop, x_dup2, x_gI, x_gL, x_gR, x_g1, x_g0, x_gP, x_pI, x_pZ, x_pL, x_pP, x_al, x_as, x_all, x_asl, x_alr, x_len, x_cpy, x_m2, x_m1, x_m2l, x_m1l, x_call, x_cv, x_ri, x_rz, x_rl, x_rv, zg, zset, zbef, zlong, zcat, cond_true, cond_false, List.take, List.drop, rv1, rv2, rv3, rv4, rv5, rv6, rv7, sm0, sm1, bl0, bl1, bl2, bl3, bl4, bl5, bl6, bl7, bl8, List.nil_append, List.cons_append, List.length_cons, List.length_nil, Nat.reduceBEq, Nat.reduceAdd, Nat.reduceSub, ta, tb, tn0, tn1, tn2, tn3, tn4, tn5, tn6, tn7, tn8, tn9, tn10, tn11, tn12, zk_52, zl_52]
    rw [n_add, n_cl (n := FRk k + LNk k) (by omega), hw _ (by omega), pk_sub hab]
    refine ⟨n_zin (by omega) (by decide), fun _ => ?_, fun q => absurd (FR_e k hk) q⟩
    have fin : ∀ v : Bool, (v = true ↔ mtP B a b k) → ∀ j, bX12_wordAt_104 K self [some refR, some (.inl (nI a)), some (.inl (nI b)), some (.inl (nI k)), some (.inl (nI (FRk k))), some (.inl (nI (LNk k))), some (.inl (bI v)), some (.inl (nI j))] [] (I, L, P) := fun v hv j => by
      unfold bX12_wordAt_104
      dsimp only [x_int, x_lng, x_ild, x_lld, x_ald, x_ist, x_ast, x_lst, x_inc, x_ii, x_id, x_i, x_ll, x_ld, x_l, x_cmp, x_i2l, x_l2i, x_if, x_ic, x_dup, x_pop, x_dup2, x_gI, x_gL, x_gR, x_g1, x_g0, x_gP, x_pI, x_pZ, x_pL, x_pP, x_al, x_as, x_all, x_asl, x_alr, x_len, x_cpy, x_m2, x_m1, x_m2l, x_m1l, x_call, x_cv, x_ri, x_rz, x_rl, x_rv, zg, zset, zbef, zlong, zcat, cond_true, cond_false, List.take, List.drop, rv1, rv2, rv3, rv4, rv5, rv6, rv7, sm0, sm1, bl0, bl1, bl2, bl3, bl4, bl5, bl6, bl7, bl8, List.nil_append, List.cons_append, List.length_cons, List.length_nil, Nat.reduceBEq, Nat.reduceAdd, Nat.reduceSub, ta, tb, tn0, tn1, tn2, tn3, tn4, tn5, tn6, tn7, tn8, tn9, tn10, tn11, tn12]
      rw [n_succ (LNk k), n_add, n_succ k, ← Nat.add_assoc, ← s1]
      cases v with
      | false =>
        have no : ¬ mtP B a b k := fun z => by have := hv.mpr z; cases this
        rw [if_neg no] at sw
        exact ⟨fun _ => hself _ _ ⟨_, _, _, rfl, rfl, sw⟩, fun z => absurd rfl z⟩
      | true =>
        rw [if_pos (hv.mp rfl)] at sw
        have : wat B a b 19 = some k := by
          have up : ∀ d, wat B a b (k + 1 + d) = some k := fun d => by
            induction d with
            | zero => exact sw
            | succ d ih =>
              show (match wat B a b (k + 1 + d) with
                | some q => some q
                | none => _) = _
              rw [ih]
          have := up (19 - (k + 1))
          rw [show k + 1 + (19 - (k + 1)) = 19 by omega] at this
          exact this
        rw [this] at hK
        exact ⟨fun z => absurd z (by decide), fun _ => hK⟩
    have body : ∀ v : Bool, (v = true ↔ LNk k = b - a) → bX12_wordAt_52 K self [some refR, some (.inl (nI a)), some (.inl (nI b)), some (.inl (nI k)), some (.inl (nI (FRk k))), some (.inl (nI (LNk k))), z6, z7] [.inl (bI v)] (I, L, P) := fun v hv => by
      unfold bX12_wordAt_52
      dsimp only [x_int, x_lng, x_ild, x_lld, x_ald, x_ist, x_ast, x_lst, x_inc, x_ii, x_id, x_i, x_ll, x_ld, x_l, x_cmp, x_i2l, x_l2i, x_if, x_ic, x_dup, x_pop, x_dup2, x_gI, x_gL, x_gR, x_g1, x_g0, x_gP, x_pI, x_pZ, x_pL, x_pP, x_al, x_as, x_all, x_asl, x_alr, x_len, x_cpy, x_m2, x_m1, x_m2l, x_m1l, x_call, x_cv, x_ri, x_rz, x_rl, x_rv, zg, zset, zbef, zlong, zcat, cond_true, cond_false, List.take, List.drop, rv1, rv2, rv3, rv4, rv5, rv6, rv7, sm0, sm1, bl0, bl1, bl2, bl3, bl4, bl5, bl6, bl7, bl8, List.nil_append, List.cons_append, List.length_cons, List.length_nil, Nat.reduceBEq, Nat.reduceAdd, Nat.reduceSub, ta, tb, tn0, tn1, tn2, tn3, tn4, tn5, tn6, tn7, tn8, tn9, tn10, tn11, tn12]
      refine zinv (LNk k) (fun j Z M => ∃ u : Bool, Z = [some refR, some (.inl (nI a)), some (.inl (nI b)), some (.inl (nI k)), some (.inl (nI (FRk k))), some (.inl (nI (LNk k))), some (.inl (bI u)), some (.inl (nI j))] ∧ M = (I, L, P) ∧ (u = true ↔ (LNk k = b - a ∧ ∀ i, i < j → wrdR.getD (FRk k + i) 0 = nI (B (a + i))))) ?_ ?_ ⟨v, rfl, rfl, ⟨fun z => ⟨hv.mp z, fun i hi => by omega⟩, fun z => hv.mpr z.1⟩⟩
      · rintro j Z M hj ⟨u, rfl, rfl, hu⟩ self3 hself3
        dsimp only [x_int, x_lng, x_ild, x_lld, x_ald, x_ist, x_ast, x_lst, x_inc, x_ii, x_id, x_i, x_ll, x_ld, x_l, x_cmp, x_i2l, x_l2i, x_if, x_ic, x_dup, x_pop, x_dup2, x_gI, x_gL, x_gR, x_g1, x_g0, x_gP, x_pI, x_pZ, x_pL, x_pP, x_al, x_as, x_all, x_asl, x_alr, x_len, x_cpy, x_m2, x_m1, x_m2l, x_m1l, x_call, x_cv, x_ri, x_rz, x_rl, x_rv, zg, zset, zbef, zlong, zcat, cond_true, cond_false, List.take, List.drop, rv1, rv2, rv3, rv4, rv5, rv6, rv7, sm0, sm1, bl0, bl1, bl2, bl3, bl4, bl5, bl6, bl7, bl8, List.nil_append, List.cons_append, List.length_cons, List.length_nil, Nat.reduceBEq, Nat.reduceAdd, Nat.reduceSub, ta, tb, tn0, tn1, tn2, tn3, tn4, tn5, tn6, tn7, tn8, tn9, tn10, tn11, tn12]
        refine ⟨fun q => absurd q (lt_go (n := LNk k) rfl (by omega) hj), fun _ => ?_⟩
        cases u with
        | false =>
          refine ⟨fun _ => fin false ⟨fun z => (by cases z), fun z => ?_⟩ j, fun z => absurd rfl z⟩
          have := hu.mpr ⟨z.1, fun i hi => z.2 i (by omega)⟩
          cases this
        | true =>
          obtain ⟨u1, u2⟩ := hu.mp rfl
          refine ⟨fun z => absurd z (by decide), fun _ => ?_⟩
          dsimp only [x_int, x_lng, x_ild, x_lld, x_ald, x_ist, x_ast, x_lst, x_inc, x_ii, x_id, x_i, x_ll, x_ld, x_l, x_cmp, x_i2l, x_l2i, x_if, x_ic, x_dup, x_pop, x_dup2, x_gI, x_gL, x_gR, x_g1, x_g0, x_gP, x_pI, x_pZ, x_pL, x_pP, x_al, x_as, x_all, x_asl, x_alr, x_len, x_cpy, x_m2, x_m1, x_m2l, x_m1l, x_call, x_cv, x_ri, x_rz, x_rl, x_rv, zg, zset, zbef, zlong, zcat, cond_true, cond_false, List.take, List.drop, rv1, rv2, rv3, rv4, rv5, rv6, rv7, sm0, sm1, bl0, bl1, bl2, bl3, bl4, bl5, bl6, bl7, bl8, List.nil_append, List.cons_append, List.length_cons, List.length_nil, Nat.reduceBEq, Nat.reduceAdd, Nat.reduceSub, ta, tb, tn0, tn1, tn2, tn3, tn4, tn5, tn6, tn7, tn8, tn9, tn10, tn11, tn12, zk_52, zl_52, zk_51, zl_51, bX12_wordAt_96]
          rw [n_add, n_add, n_cl (n := FRk k + j) (by omega), n_cl (n := a + j) (by omega), hw _ (by omega), hB _ (by omega), n_succ j]
          refine ⟨n_zin (by omega) (by decide), n_zin (by omega) (by decide), fun c => hself3 _ _ ⟨true, rfl, rfl, ⟨fun _ => ⟨u1, fun i hi => ?_⟩, fun _ => rfl⟩⟩, fun c => hself3 _ _ ⟨false, rfl, rfl, ⟨fun z => (by cases z), fun z => absurd (z.2 j (by omega)) c⟩⟩⟩
          by_cases e : i = j
          · subst e; exact c
          · exact u2 i (by omega)
      · rintro Z M ⟨u, rfl, rfl, hu⟩ self3
        dsimp only [x_int, x_lng, x_ild, x_lld, x_ald, x_ist, x_ast, x_lst, x_inc, x_ii, x_id, x_i, x_ll, x_ld, x_l, x_cmp, x_i2l, x_l2i, x_if, x_ic, x_dup, x_pop, x_dup2, x_gI, x_gL, x_gR, x_g1, x_g0, x_gP, x_pI, x_pZ, x_pL, x_pP, x_al, x_as, x_all, x_asl, x_alr, x_len, x_cpy, x_m2, x_m1, x_m2l, x_m1l, x_call, x_cv, x_ri, x_rz, x_rl, x_rv, zg, zset, zbef, zlong, zcat, cond_true, cond_false, List.take, List.drop, rv1, rv2, rv3, rv4, rv5, rv6, rv7, sm0, sm1, bl0, bl1, bl2, bl3, bl4, bl5, bl6, bl7, bl8, List.nil_append, List.cons_append, List.length_cons, List.length_nil, Nat.reduceBEq, Nat.reduceAdd, Nat.reduceSub, ta, tb, tn0, tn1, tn2, tn3, tn4, tn5, tn6, tn7, tn8, tn9, tn10, tn11, tn12]
        exact ⟨fun _ => fin u hu (LNk k), fun q => absurd q (lt_out (n := LNk k) rfl)⟩
    refine ⟨fun q => body true ⟨fun _ => ?_, fun _ => rfl⟩, fun q => body false ⟨fun z => (by cases z), fun z => absurd (show nI (LNk k) = nI (b - a) by rw [z]) q⟩⟩
    have q : nI (LNk k) = nI (b - a) := q
    rw [n_eq (by omega) (by omega)] at q
    exact q
  · rintro Z M ⟨z5, z6, z7, rfl, rfl, hno⟩ self
    rw [hno] at hK
    dsimp only [x_int, x_lng, x_ild, x_lld, x_ald, x_ist, x_ast, x_lst, x_inc, x_ii, x_id, x_i, x_ll, x_ld, x_l, x_cmp, x_i2l, x_l2i, x_if, x_ic, x_dup, x_pop, x_dup2, x_gI, x_gL, x_gR, x_g1, x_g0, x_gP, x_pI, x_pZ, x_pL, x_pP, x_al, x_as, x_all, x_asl, x_alr, x_len, x_cpy, x_m2, x_m1, x_m2l, x_m1l, x_call, x_cv, x_ri, x_rz, x_rl, x_rv, zg, zset, zbef, zlong, zcat, cond_true, cond_false, List.take, List.drop, rv1, rv2, rv3, rv4, rv5, rv6, rv7, sm0, sm1, bl0, bl1, bl2, bl3, bl4, bl5, bl6, bl7, bl8, List.nil_append, List.cons_append, List.length_cons, List.length_nil, Nat.reduceBEq, Nat.reduceAdd, Nat.reduceSub, ta, tb, tn0, tn1, tn2, tn3, tn4, tn5, tn6, tn7, tn8, tn9, tn10, tn11, tn12, zl_52]
    refine ⟨fun _ => hK, fun q => absurd (show nI 90 ≤ nI (FRk 19) by decide) q⟩
-- bits of letters
def Dj (B : Nat → Nat) (s k j : Nat) : Nat := if j < k then B (s + j) - 96 else 0
def pkN (B : Nat → Nat) (s k : Nat) : Nat := Dj B s k 0 * 33554432 + Dj B s k 1 * 1048576 + Dj B s k 2 * 32768 + Dj B s k 3 * 1024 + Dj B s k 4 * 32 + Dj B s k 5
theorem nI_or (a b : Nat) : nI a ||| nI b = nI (a ||| b) := by
  apply Int32.toBitVec_inj.mp
  rw [Int32.toBitVec_or]
  apply BitVec.eq_of_getLsbD_eq
  intro i hi
  rw [BitVec.getLsbD_or]
  show ((BitVec.ofNat 32 a).getLsbD i || (BitVec.ofNat 32 b).getLsbD i) = (BitVec.ofNat 32 (a ||| b)).getLsbD i
  rw [BitVec.getLsbD_ofNat, BitVec.getLsbD_ofNat, BitVec.getLsbD_ofNat, Nat.testBit_or]
  simp [hi]
theorem nI_or_add {q i b : Nat} (h : b < 2 ^ i) : nI (2 ^ i * q) ||| nI b = nI (2 ^ i * q + b) := by
  rw [nI_or, Nat.two_pow_add_eq_or_of_lt h]
theorem lb_v : ∀ k, k < 6 → ∀ x, x < 26 → lb (97 + x) k = nI ((x + 1) * 32 ^ (5 - k)) := by decide +kernel
theorem pkC_N {B : Nat → Nat} {s : Nat} : ∀ k, k ≤ 6 → (∀ j, j < k → isL (B (s + j)) = true) → pkC B s k = nI (pkN B s k) := by
  intro k
  induction k with
  | zero =>
    intro _ _
    have e : pkN B s 0 = 0 := by unfold pkN Dj; simp
    rw [e]; rfl
  | succ k ih =>
    intro hk hl
    have ih := ih (by omega) (fun j hj => hl j (by omega))
    have l : ∀ j, j < k + 1 → 97 ≤ B (s + j) ∧ B (s + j) ≤ 122 := fun j hj => of_decide_eq_true (hl j hj)
    have lk := l k (by omega)
    show pkC B s k ||| lb (B (s + k)) k = _
    have e := lb_v k (by omega) (B (s + k) - 97) (by omega)
    rw [show 97 + (B (s + k) - 97) = B (s + k) by omega, show B (s + k) - 97 + 1 = B (s + k) - 96 by omega] at e
    rw [ih, e]
    have c : k = 0 ∨ k = 1 ∨ k = 2 ∨ k = 3 ∨ k = 4 ∨ k = 5 := by omega
    have s0 : s + 0 = s := rfl
    rcases c with rfl | rfl | rfl | rfl | rfl | rfl
    · have := nI_or_add (q := pkN B s 0 / 2 ^ (5 * (6 - 0))) (i := 5 * (6 - 0)) (b := (B (s + 0) - 96) * 32 ^ (5 - 0)) (by simp only [s0] at *; simp; omega)
      have dv : 2 ^ (5 * (6 - 0)) * (pkN B s 0 / 2 ^ (5 * (6 - 0))) = pkN B s 0 := by
        unfold pkN Dj
        simp
        try omega
      rw [dv] at this
      rw [this]
      refine congrArg nI ?_
      unfold pkN Dj
      simp
      try omega
    · have := nI_or_add (q := pkN B s 1 / 2 ^ (5 * (6 - 1))) (i := 5 * (6 - 1)) (b := (B (s + 1) - 96) * 32 ^ (5 - 1)) (by simp only [s0] at *; simp; omega)
      have dv : 2 ^ (5 * (6 - 1)) * (pkN B s 1 / 2 ^ (5 * (6 - 1))) = pkN B s 1 := by
        unfold pkN Dj
        simp
        try omega
      rw [dv] at this
      rw [this]
      refine congrArg nI ?_
      unfold pkN Dj
      simp
      try omega
    · have := nI_or_add (q := pkN B s 2 / 2 ^ (5 * (6 - 2))) (i := 5 * (6 - 2)) (b := (B (s + 2) - 96) * 32 ^ (5 - 2)) (by simp only [s0] at *; simp; omega)
      have dv : 2 ^ (5 * (6 - 2)) * (pkN B s 2 / 2 ^ (5 * (6 - 2))) = pkN B s 2 := by
        unfold pkN Dj
        simp
        try omega
      rw [dv] at this
      rw [this]
      refine congrArg nI ?_
      unfold pkN Dj
      simp
      try omega
    · have := nI_or_add (q := pkN B s 3 / 2 ^ (5 * (6 - 3))) (i := 5 * (6 - 3)) (b := (B (s + 3) - 96) * 32 ^ (5 - 3)) (by simp only [s0] at *; simp; omega)
      have dv : 2 ^ (5 * (6 - 3)) * (pkN B s 3 / 2 ^ (5 * (6 - 3))) = pkN B s 3 := by
        unfold pkN Dj
        simp
        try omega
      rw [dv] at this
      rw [this]
      refine congrArg nI ?_
      unfold pkN Dj
      simp
      try omega
    · have := nI_or_add (q := pkN B s 4 / 2 ^ (5 * (6 - 4))) (i := 5 * (6 - 4)) (b := (B (s + 4) - 96) * 32 ^ (5 - 4)) (by simp only [s0] at *; simp; omega)
      have dv : 2 ^ (5 * (6 - 4)) * (pkN B s 4 / 2 ^ (5 * (6 - 4))) = pkN B s 4 := by
        unfold pkN Dj
        simp
        try omega
      rw [dv] at this
      rw [this]
      refine congrArg nI ?_
      unfold pkN Dj
      simp
      try omega
    · have := nI_or_add (q := pkN B s 5 / 2 ^ (5 * (6 - 5))) (i := 5 * (6 - 5)) (b := (B (s + 5) - 96) * 32 ^ (5 - 5)) (by simp only [s0] at *; simp; omega)
      have dv : 2 ^ (5 * (6 - 5)) * (pkN B s 5 / 2 ^ (5 * (6 - 5))) = pkN B s 5 := by
        unfold pkN Dj
        simp
        try omega
      rw [dv] at this
      rw [this]
      refine congrArg nI ?_
      unfold pkN Dj
      simp
      try omega
