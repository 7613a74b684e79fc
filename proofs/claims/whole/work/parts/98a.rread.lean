-- THE REFERENCE READS
def rrK (a c : Nat) : Prop := (a = 12 ∧ (c = 4 ∨ c = 5 ∨ c = 7 ∨ c = 8 ∨ c = 9 ∨ c = 10 ∨ c = 11 ∨ (16 ≤ c ∧ c ≤ 19) ∨ (41 ≤ c ∧ c ≤ 46))) ∨ a = 53 ∨ (a = 54 ∧ 2 ≤ c) ∨ ((a = 55 ∨ a = 56 ∨ a = 57) ∧ 6 ≤ c) ∨ (a = 58 ∧ 36 ≤ c) ∨ ((59 ≤ a ∧ a ≤ 62) ∧ 4 ≤ c) ∨ ((63 ≤ a ∧ a ≤ 65) ∧ 10 ≤ c) ∨ ((66 ≤ a ∧ a ≤ 68) ∧ 3 ≤ c) ∨ ((69 ≤ a ∧ a ≤ 71) ∧ 64 ≤ c) ∨ a = 72 ∨ a = 73
theorem rsl : 4 = 4 ∧ 5 = 5 ∧ 6 = 6 ∧ 7 = 7 ∧ 8 = 8 ∧ 9 = 9 ∧ 10 = 10 ∧ 11 = 11 ∧ 16 = 16 ∧ 17 = 17 ∧ 18 = 18 ∧ 19 = 19 ∧ 41 = 41 ∧ 42 = 42 ∧ 43 = 43 ∧ 44 = 44 ∧ 45 = 45 ∧ 46 = 46 := by decide
abbrev frG (I I' : zI) : Prop := ony rrK I I'
theorem frK_G {I I' : zI} (h : frK I I') : frG I I' := fun a b c q => h a b c (fun e => q ⟨e.2.1, by unfold rrK; omega⟩)
/-- the token that is looked at -/
def tkR (B : Nat → Nat) (n i : Nat) (I : zI) : Prop := rtk (tkn B n (ps B n i)) I ∧ I 12 0 4 = 0 ∧ I 12 0 5 = -1
def stR (B : Nat → Nat) (n : Nat) (st : aR) (I : zI) : Prop := match st with
  | .inl i => tkR B n i I
  | .inr (e, j) => I 12 0 4 = nI e ∧ I 12 0 5 = nI (stn B n j)
theorem tkR.q {B : Nat → Nat} {n i : Nat} {I I' : zI} (h : tkR B n i I) (e : ∀ c, 4 ≤ c → c ≤ 10 → I' 12 0 c = I 12 0 c) : tkR B n i I' := by
  unfold tkR rtk at h ⊢
  rw [e 7 (by decide) (by decide), e 10 (by decide) (by decide), e 8 (by decide) (by decide), e 9 (by decide) (by decide), e 4 (by decide) (by decide), e 5 (by decide) (by decide)]
  exact h
def aB (st : aR) : Int32 := match st with
  | .inl _ => 1
  | .inr _ => 0
theorem p_wrong {K : zQ} {I : zI} {L : zJ} {P : zP} {B : Nat → Nat} {n i e : Nat} (h : tkR B n i I) (hK : ∀ I' : zI, ony (fun a c => a = 12 ∧ (c = 4 ∨ c = 5)) I I' → stR B n (.inr (e, i)) I' → K [.inl 0] (I', L, P)) : mX12_wrong K [refR, .inl (nI e)] (I, L, P) := by
  show bX12_wrong_0 K [some (.inr (.inr (12,0))), some (.inl (nI e))] [] (I, L, P)
  unfold bX12_wrong_0
  dsimp only [x_int, x_lng, x_ild, x_lld, x_ald, x_ist, x_ast, x_lst, x_inc, x_ii, x_id, x_i, x_ll, x_ld, x_l, x_cmp, x_i2l, x_l2i, x_if, x_ic, x_dup, x_pop, x_dup2, x_gI, x_gL, x_gR, x_g1, x_g0, x_gP, x_pI, x_pZ, x_pL, x_pP, x_al, x_as, x_all, x_asl, x_alr, x_len, x_cpy, x_m2, x_m1, x_m2l, x_m1l, x_call, x_cv, x_ri, x_rz, x_rl, x_rv, zg, zset, zbef, zlong, zcat, cond_true, cond_false, List.take, List.drop, rv1, rv2, rv3, rv4, rv5, rv6, rv7, sm0, sm1, bl0, bl1, bl2, bl3, bl4, bl5, bl6, bl7, bl8, List.nil_append, List.cons_append, List.length_cons, List.length_nil, Nat.reduceBEq, Nat.reduceAdd, Nat.reduceSub, ta, tb, tn0, tn1, tn2, tn3, tn4, tn5, tn6, tn7, tn8, tn9, tn10, tn11, tn12]
  obtain ⟨J1, e1, y1, k1⟩ := zsI_ex I L P 12 0 4 (nI e)
  rw [e1]
  dsimp only
  rw [k1 12 0 10 (by decide), h.1.2.1]
  obtain ⟨J2, e2, y2, k2⟩ := zsI_ex J1 L P 12 0 5 (nI (stn B n i))
  rw [e2]
  exact ⟨Or.inl rfl, hK J2 (fun a b c u => (k2 a b c (fun v => u ⟨v.2.1, v.1, Or.inr v.2.2⟩)).trans (k1 a b c (fun v => u ⟨v.2.1, v.1, Or.inl v.2.2⟩))) ⟨(k2 _ _ _ (by decide)).trans y1, y2⟩⟩
theorem wrong_G {I I' : zI} (h : ony (fun a c => a = 12 ∧ (c = 4 ∨ c = 5)) I I') : frG I I' := h.mono (fun a c u => by unfold rrK; omega)
/-- on to the next one -/
theorem p_next {K : zQ} {I : zI} {L : zJ} {P : zP} {B : Nat → Nat} {n i : Nat} (hp : RTp B n I) (h : tkR B n i I) (hK : ∀ I' : zI, frK I I' → tkR B n (i + 1) I' → K [] (I', L, P)) : mX12_token K [refR] (I, L, P) := p_token hp (ps_le (fun j hj => (hp.2.2.1 j hj).2) (i + 1)) h.1.1 (fun I' f t => hK I' f ⟨t, (f _ _ _ (by decide)).trans h.2.1, (f _ _ _ (by decide)).trans h.2.2⟩)
/-- a kind of token, told by the reference's marks -/
theorem tkR.k {B : Nat → Nat} {n i : Nat} {I : zI} (h : tkR B n i I) : RTk (kd B n i) (vl B n i) (I 12 0 8) (I 12 0 9) := h.1.2.2
theorem RTk_num {k : Nat} {v x w : Int32} (h : RTk k v x w) : x = 3 ↔ k = 20 := by
  unfold RTk at h
  rcases h with ⟨a, b⟩ | ⟨a, b, -⟩ | ⟨a, b, -⟩ | ⟨a, b, -⟩ | ⟨a, a2, b, -⟩ | ⟨a, a2, b, -⟩ | ⟨a, b | ⟨b, -⟩⟩ <;> rw [b] <;> constructor <;> intro z <;> first | omega | exact absurd z (by decide) | rfl
theorem RTk_name {k : Nat} {v x w : Int32} (h : RTk k v x w) : x = 2 ↔ k = 19 := by
  unfold RTk at h
  rcases h with ⟨a, b⟩ | ⟨a, b, -⟩ | ⟨a, b, -⟩ | ⟨a, b, -⟩ | ⟨a, a2, b, -⟩ | ⟨a, a2, b, -⟩ | ⟨a, b | ⟨b, -⟩⟩ <;> rw [b] <;> constructor <;> intro z <;> first | omega | exact absurd z (by decide) | rfl
theorem RTk_key {k : Nat} {v x w : Int32} (h : RTk k v x w) : x = 1 ↔ k ≤ 18 := by
  unfold RTk at h
  rcases h with ⟨a, b⟩ | ⟨a, b, -⟩ | ⟨a, b, -⟩ | ⟨a, b, -⟩ | ⟨a, a2, b, -⟩ | ⟨a, a2, b, -⟩ | ⟨a, b | ⟨b, -⟩⟩ <;> rw [b] <;> constructor <;> intro z <;> first | omega | exact absurd z (by decide) | rfl
theorem RTk_end {k : Nat} {v x w : Int32} (h : RTk k v x w) : x = 0 ↔ k = 34 := by
  unfold RTk at h
  rcases h with ⟨a, b⟩ | ⟨a, b, -⟩ | ⟨a, b, -⟩ | ⟨a, b, -⟩ | ⟨a, a2, b, -⟩ | ⟨a, a2, b, -⟩ | ⟨a, b | ⟨b, -⟩⟩ <;> rw [b] <;> constructor <;> intro z <;> first | omega | exact absurd z (by decide) | rfl
theorem RTk_cmp {k : Nat} {v x w : Int32} (h : RTk k v x w) : x = 5 ↔ (28 ≤ k ∧ k ≤ 33) := by
  unfold RTk at h
  rcases h with ⟨a, b⟩ | ⟨a, b, -⟩ | ⟨a, b, -⟩ | ⟨a, b, -⟩ | ⟨a, a2, b, -⟩ | ⟨a, a2, b, -⟩ | ⟨a, b | ⟨b, -⟩⟩ <;> rw [b] <;> constructor <;> intro z <;> first | omega | exact absurd z (by decide) | rfl
theorem RTk_which {k : Nat} {v x w : Int32} (h : RTk k v x w) : (k ≤ 18 → w = nI (sgm k)) ∧ (k = 19 → w = v) ∧ (k = 20 → numR v w) ∧ (28 ≤ k ∧ k ≤ 33 → w = nI (k - 28)) := by
  unfold RTk at h
  rcases h with ⟨a, b⟩ | ⟨a, b, c⟩ | ⟨a, b, c⟩ | ⟨a, b, c⟩ | ⟨a, a2, b, -⟩ | ⟨a, a2, b, c⟩ | ⟨a, b⟩ <;> refine ⟨fun z => ?_, fun z => ?_, fun z => ?_, fun z => ?_⟩ <;> first | omega | exact c
/-- a sign -/
theorem RTk_sign {k : Nat} {v x w : Int32} (h : RTk k v x w) {q : Nat} (hq : 21 ≤ q ∧ q ≤ 27) : (x = 4 ∧ w = nI (sgc q)) ↔ k = q := by
  unfold RTk at h
  have inj : ∀ a, a < 28 → ∀ b, b < 28 → 21 ≤ a → 21 ≤ b → nI (sgc a) = nI (sgc b) → a = b := by decide
  have n37 : ∀ a, a < 28 → 21 ≤ a → ¬ nI (sgc a) = 37 := by decide
  rcases h with ⟨a, b⟩ | ⟨a, b, -⟩ | ⟨a, b, -⟩ | ⟨a, b, -⟩ | ⟨a, a2, b, c⟩ | ⟨a, a2, b, -⟩ | ⟨a, b | ⟨b, c⟩⟩
  · exact ⟨fun z => by rw [b] at z; exact absurd z.1 (by decide), fun z => by omega⟩
  · exact ⟨fun z => by rw [b] at z; exact absurd z.1 (by decide), fun z => by omega⟩
  · exact ⟨fun z => by rw [b] at z; exact absurd z.1 (by decide), fun z => by omega⟩
  · exact ⟨fun z => by rw [b] at z; exact absurd z.1 (by decide), fun z => by omega⟩
  · refine ⟨fun z => ?_, fun z => ⟨b, by rw [c, z]⟩⟩
    rw [c] at z
    exact inj k (by omega) q (by omega) (by omega) (by omega) z.2
  · exact ⟨fun z => by rw [b] at z; exact absurd z.1 (by decide), fun z => by omega⟩
  · exact ⟨fun z => by rw [b] at z; exact absurd z.1 (by decide), fun z => by omega⟩
  · refine ⟨fun z => ?_, fun z => by omega⟩
    rw [c] at z
    exact absurd z.2.symm (n37 q (by omega) (by omega))
theorem p_isSign {K : zQ} {I : zI} {L : zJ} {P : zP} {B : Nat → Nat} {n i q : Nat} (hq : 21 ≤ q ∧ q ≤ 27) (h : tkR B n i I) (h1 : kd B n i = q → K [.inl 1] (I, L, P)) (h0 : ¬ kd B n i = q → K [.inl 0] (I, L, P)) : mX12_isSign K [refR, .inl (nI (sgc q))] (I, L, P) := by
  have e := RTk_sign h.k hq
  show bX12_isSign_0 K [some (.inr (.inr (12,0))), some (.inl (nI (sgc q)))] [] (I, L, P)
  unfold bX12_isSign_0
  dsimp only [x_int, x_lng, x_ild, x_lld, x_ald, x_ist, x_ast, x_lst, x_inc, x_ii, x_id, x_i, x_ll, x_ld, x_l, x_cmp, x_i2l, x_l2i, x_if, x_ic, x_dup, x_pop, x_dup2, x_gI, x_gL, x_gR, x_g1, x_g0, x_gP, x_pI, x_pZ, x_pL, x_pP, x_al, x_as, x_all, x_asl, x_alr, x_len, x_cpy, x_m2, x_m1, x_m2l, x_m1l, x_call, x_cv, x_ri, x_rz, x_rl, x_rv, zg, zset, zbef, zlong, zcat, cond_true, cond_false, List.take, List.drop, rv1, rv2, rv3, rv4, rv5, rv6, rv7, sm0, sm1, bl0, bl1, bl2, bl3, bl4, bl5, bl6, bl7, bl8, List.nil_append, List.cons_append, List.length_cons, List.length_nil, Nat.reduceBEq, Nat.reduceAdd, Nat.reduceSub, ta, tb, tn0, tn1, tn2, tn3, tn4, tn5, tn6, tn7, tn8, tn9, tn10, tn11, tn12, bX12_isSign_20, bX12_isSign_21]
  exact ⟨fun z => ⟨fun y => ⟨Or.inr rfl, h1 (e.mp ⟨z, y⟩)⟩, fun y => ⟨Or.inl rfl, h0 (fun u => y (e.mpr u).2)⟩⟩, fun z => ⟨Or.inl rfl, h0 (fun u => z (e.mpr u).1)⟩⟩
theorem p_isKey {K : zQ} {I : zI} {L : zJ} {P : zP} {B : Nat → Nat} {n i q : Nat} (hq : q ≤ 18) (h : tkR B n i I) (h1 : kd B n i = q → K [.inl 1] (I, L, P)) (h0 : ¬ kd B n i = q → K [.inl 0] (I, L, P)) : mX12_isKey K [refR, .inl (nI (sgm q))] (I, L, P) := by
  have e := RTk_key h.k
  have w := (RTk_which h.k).1
  have inj : ∀ a, a < 19 → ∀ b, b < 19 → nI (sgm a) = nI (sgm b) → a = b := by decide
  show bX12_isKey_0 K [some (.inr (.inr (12,0))), some (.inl (nI (sgm q)))] [] (I, L, P)
  unfold bX12_isKey_0
  dsimp only [x_int, x_lng, x_ild, x_lld, x_ald, x_ist, x_ast, x_lst, x_inc, x_ii, x_id, x_i, x_ll, x_ld, x_l, x_cmp, x_i2l, x_l2i, x_if, x_ic, x_dup, x_pop, x_dup2, x_gI, x_gL, x_gR, x_g1, x_g0, x_gP, x_pI, x_pZ, x_pL, x_pP, x_al, x_as, x_all, x_asl, x_alr, x_len, x_cpy, x_m2, x_m1, x_m2l, x_m1l, x_call, x_cv, x_ri, x_rz, x_rl, x_rv, zg, zset, zbef, zlong, zcat, cond_true, cond_false, List.take, List.drop, rv1, rv2, rv3, rv4, rv5, rv6, rv7, sm0, sm1, bl0, bl1, bl2, bl3, bl4, bl5, bl6, bl7, bl8, List.nil_append, List.cons_append, List.length_cons, List.length_nil, Nat.reduceBEq, Nat.reduceAdd, Nat.reduceSub, ta, tb, tn0, tn1, tn2, tn3, tn4, tn5, tn6, tn7, tn8, tn9, tn10, tn11, tn12, bX12_isKey_20, bX12_isKey_21]
  refine ⟨fun z => ⟨fun y => ⟨Or.inr rfl, h1 ?_⟩, fun y => ⟨Or.inl rfl, h0 (fun u => y ?_)⟩⟩, fun z => ⟨Or.inl rfl, h0 (fun u => z (e.mpr (by omega)))⟩⟩
  · have k18 := e.mp z
    rw [w k18] at y
    exact inj _ (by omega) _ (by omega) y
  · rw [w (by omega), u]
theorem p_number {K : zQ} {I : zI} {L : zJ} {P : zP} {B : Nat → Nat} {n i lo hi : Nat} (hh : lo ≤ hi ∧ hi ≤ 99999) (hp : RTp B n I) (h : tkR B n i I) (hK : ∀ I' : zI, ony (fun a c => a = 12 ∧ (4 ≤ c ∧ c ≤ 11 ∧ ¬ c = 6)) I I' → stR B n (nuA B n lo hi (.inl i)) I' → (∀ j, nuA B n lo hi (.inl i) = .inl j → I' 12 0 11 = vl B n i) → K [.inl (aB (nuA B n lo hi (.inl i)))] (I', L, P)) : mX12_number K [refR, .inl (nI lo), .inl (nI hi)] (I, L, P) := by
  have e := RTk_num h.k
  have wn := (RTk_which h.k).2.2.1
  have s1 : nuA B n lo hi (.inl i) = if kd B n i = 20 then (if nI lo ≤ vl B n i ∧ vl B n i ≤ nI hi then .inl (i + 1) else .inr (2, i)) else .inr (1, i) := rfl
  show bX12_number_0 K [some (.inr (.inr (12,0))), some (.inl (nI lo)), some (.inl (nI hi))] [] (I, L, P)
  unfold bX12_number_0
  dsimp only [x_int, x_lng, x_ild, x_lld, x_ald, x_ist, x_ast, x_lst, x_inc, x_ii, x_id, x_i, x_ll, x_ld, x_l, x_cmp, x_i2l, x_l2i, x_if, x_ic, x_dup, x_pop, x_dup2, x_gI, x_gL, x_gR, x_g1, x_g0, x_gP, x_pI, x_pZ, x_pL, x_pP, x_al, x_as, x_all, x_asl, x_alr, x_len, x_cpy, x_m2, x_m1, x_m2l, x_m1l, x_call, x_cv, x_ri, x_rz, x_rl, x_rv, zg, zset, zbef, zlong, zcat, cond_true, cond_false, List.take, List.drop, rv1, rv2, rv3, rv4, rv5, rv6, rv7, sm0, sm1, bl0, bl1, bl2, bl3, bl4, bl5, bl6, bl7, bl8, List.nil_append, List.cons_append, List.length_cons, List.length_nil, Nat.reduceBEq, Nat.reduceAdd, Nat.reduceSub, ta, tb, tn0, tn1, tn2, tn3, tn4, tn5, tn6, tn7, tn8, tn9, tn10, tn11, tn12]
  have bad : ∀ q, nuA B n lo hi (.inl i) = .inr (q, i) → mX12_wrong (fun r M' => g_rz K [some refR, some (.inl (nI lo)), some (.inl (nI hi))] (r ++ []) M') [refR, .inl (nI q)] (I, L, P) := fun q hq => by
    rw [hq] at hK
    refine p_wrong h (fun I1 f1 s1 => ?_)
    exact ⟨Or.inl rfl, hK I1 (f1.mono (fun a c u => ⟨u.1, by omega⟩)) s1 (fun j ej => by cases ej)⟩
  refine ⟨fun z => ?_, fun z => bad 1 (by rw [s1, if_neg (fun u => z (e.mpr u))])⟩
  have k20 := e.mp z
  obtain ⟨a, b, va, vb, rel, a6, b6⟩ := wn k20
  rw [if_pos k20] at s1
  have iff : (nI lo ≤ vl B n i ∧ vl B n i ≤ nI hi) ↔ okI (I 12 0 9) (nI lo) (nI hi) := by
    rw [va, vb]
    unfold okI
    rw [n_le (by omega) (by omega), n_le (by omega) (by omega), n_le (by omega) (by omega), n_le (by omega) (by omega)]
    omega
  refine p_isIn (fun ok => ?_) (fun no => ?_)
  · dsimp only [x_int, x_lng, x_ild, x_lld, x_ald, x_ist, x_ast, x_lst, x_inc, x_ii, x_id, x_i, x_ll, x_ld, x_l, x_cmp, x_i2l, x_l2i, x_if, x_ic, x_dup, x_pop, x_dup2, x_gI, x_gL, x_gR, x_g1, x_g0, x_gP, x_pI, x_pZ, x_pL, x_pP, x_al, x_as, x_all, x_asl, x_alr, x_len, x_cpy, x_m2, x_m1, x_m2l, x_m1l, x_call, x_cv, x_ri, x_rz, x_rl, x_rv, zg, zset, zbef, zlong, zcat, cond_true, cond_false, List.take, List.drop, rv1, rv2, rv3, rv4, rv5, rv6, rv7, sm0, sm1, bl0, bl1, bl2, bl3, bl4, bl5, bl6, bl7, bl8, List.nil_append, List.cons_append, List.length_cons, List.length_nil, Nat.reduceBEq, Nat.reduceAdd, Nat.reduceSub, ta, tb, tn0, tn1, tn2, tn3, tn4, tn5, tn6, tn7, tn8, tn9, tn10, tn11, tn12]
    rw [if_pos (iff.mpr ok)] at s1
    rw [s1] at hK
    refine ⟨fun y => absurd y (by decide), fun _ => ?_⟩
    have ab : a = b := by
      rw [vb] at ok
      have := ok.2
      rw [n_le (by omega) (by omega)] at this
      omega
    obtain ⟨J1, e1, y1, k1⟩ := zsI_ex I L P 12 0 11 (I 12 0 9)
    rw [e1]
    refine p_next (hp.q (fun a c u => k1 _ _ _ (by omega))) (h.q (fun c u1 u2 => k1 _ _ _ (by omega))) (fun I2 f2 t2 => ?_)
    dsimp only [x_int, x_lng, x_ild, x_lld, x_ald, x_ist, x_ast, x_lst, x_inc, x_ii, x_id, x_i, x_ll, x_ld, x_l, x_cmp, x_i2l, x_l2i, x_if, x_ic, x_dup, x_pop, x_dup2, x_gI, x_gL, x_gR, x_g1, x_g0, x_gP, x_pI, x_pZ, x_pL, x_pP, x_al, x_as, x_all, x_asl, x_alr, x_len, x_cpy, x_m2, x_m1, x_m2l, x_m1l, x_call, x_cv, x_ri, x_rz, x_rl, x_rv, zg, zset, zbef, zlong, zcat, cond_true, cond_false, List.take, List.drop, rv1, rv2, rv3, rv4, rv5, rv6, rv7, sm0, sm1, bl0, bl1, bl2, bl3, bl4, bl5, bl6, bl7, bl8, List.nil_append, List.cons_append, List.length_cons, List.length_nil, Nat.reduceBEq, Nat.reduceAdd, Nat.reduceSub, ta, tb, tn0, tn1, tn2, tn3, tn4, tn5, tn6, tn7, tn8, tn9, tn10, tn11, tn12]
    refine ⟨Or.inr rfl, hK I2 (fun a b c u => (f2 a b c (fun v => u ⟨v.2.1, v.1, by omega⟩)).trans (k1 a b c (fun v => u ⟨v.2.1, v.1, by omega⟩))) t2 (fun j _ => ?_)⟩
    rw [f2 _ _ _ (by decide), y1, va, vb, ab]
  · dsimp only [x_int, x_lng, x_ild, x_lld, x_ald, x_ist, x_ast, x_lst, x_inc, x_ii, x_id, x_i, x_ll, x_ld, x_l, x_cmp, x_i2l, x_l2i, x_if, x_ic, x_dup, x_pop, x_dup2, x_gI, x_gL, x_gR, x_g1, x_g0, x_gP, x_pI, x_pZ, x_pL, x_pP, x_al, x_as, x_all, x_asl, x_alr, x_len, x_cpy, x_m2, x_m1, x_m2l, x_m1l, x_call, x_cv, x_ri, x_rz, x_rl, x_rv, zg, zset, zbef, zlong, zcat, cond_true, cond_false, List.take, List.drop, rv1, rv2, rv3, rv4, rv5, rv6, rv7, sm0, sm1, bl0, bl1, bl2, bl3, bl4, bl5, bl6, bl7, bl8, List.nil_append, List.cons_append, List.length_cons, List.length_nil, Nat.reduceBEq, Nat.reduceAdd, Nat.reduceSub, ta, tb, tn0, tn1, tn2, tn3, tn4, tn5, tn6, tn7, tn8, tn9, tn10, tn11, tn12]
    exact ⟨fun _ => bad 2 (by rw [s1, if_neg (fun u => no (iff.mp u))]), fun y => absurd rfl y⟩
theorem num_G {I I' : zI} (h : ony (fun a c => a = 12 ∧ (4 ≤ c ∧ c ≤ 11 ∧ ¬ c = 6)) I I') : frG I I' := h.mono (fun a c u => by unfold rrK; omega)
theorem p_newName {K : zQ} {I : zI} {L : zJ} {P : zP} {B : Nat → Nat} {n i ka o c : Nat} {f : Nat → Int32} (hka : (zsrt ka == 1 && zaux ka == 0) = true) (k12 : ¬ ka = 12 ∧ ¬ ka = 51 ∧ ¬ ka = 52) (hl : o + c < zlen ka) (hl2 : zlen ka < 2147483648) (hf : ∀ i, i < c → I ka 0 (o + i) = f i) (hp : RTp B n I) (h : tkR B n i I) (hK : ∀ I' : zI, ony (fun a q => (a = 12 ∧ (4 ≤ q ∧ q ≤ 11 ∧ ¬ q = 6)) ∨ (a = ka ∧ q = o + c)) I I' → stR B n (nnA B n f c (.inl i)) I' → (∀ j, nnA B n f c (.inl i) = .inl j → I' ka 0 (o + c) = vl B n i) → K [.inl (aB (nnA B n f c (.inl i)))] (I', L, P)) : mX12_newName K [refR, .inr (.inr (ka, 0)), .inl (nI o), .inl (nI c)] (I, L, P) := by
  have e := RTk_name h.k
  have wn := (RTk_which h.k).2.1
  have s1 : nnA B n f c (.inl i) = if kd B n i = 19 then (match fnd f (vl B n i) c with
      | none => .inl (i + 1)
      | some _ => .inr (3, i)) else .inr (1, i) := rfl
  show bX12_newName_0 K [some (.inr (.inr (12,0))), some (.inr (.inr (ka,0))), some (.inl (nI o)), some (.inl (nI c))] [] (I, L, P)
  unfold bX12_newName_0
  dsimp only [x_int, x_lng, x_ild, x_lld, x_ald, x_ist, x_ast, x_lst, x_inc, x_ii, x_id, x_i, x_ll, x_ld, x_l, x_cmp, x_i2l, x_l2i, x_if, x_ic, x_dup, x_pop, x_dup2, x_gI, x_gL, x_gR, x_g1, x_g0, x_gP, x_pI, x_pZ, x_pL, x_pP, x_al, x_as, x_all, x_asl, x_alr, x_len, x_cpy, x_m2, x_m1, x_m2l, x_m1l, x_call, x_cv, x_ri, x_rz, x_rl, x_rv, zg, zset, zbef, zlong, zcat, cond_true, cond_false, List.take, List.drop, rv1, rv2, rv3, rv4, rv5, rv6, rv7, sm0, sm1, bl0, bl1, bl2, bl3, bl4, bl5, bl6, bl7, bl8, List.nil_append, List.cons_append, List.length_cons, List.length_nil, Nat.reduceBEq, Nat.reduceAdd, Nat.reduceSub, ta, tb, tn0, tn1, tn2, tn3, tn4, tn5, tn6, tn7, tn8, tn9, tn10, tn11, tn12]
  have bad : ∀ q, nnA B n f c (.inl i) = .inr (q, i) → mX12_wrong (fun r M' => g_rz K [some refR, some (.inr (.inr (ka, 0))), some (.inl (nI o)), some (.inl (nI c))] (r ++ []) M') [refR, .inl (nI q)] (I, L, P) := fun q hq => by
    rw [hq] at hK
    refine p_wrong h (fun I1 f1 s1 => ?_)
    exact ⟨Or.inl rfl, hK I1 (f1.mono (fun a c u => Or.inl ⟨u.1, by omega⟩)) s1 (fun j ej => by cases ej)⟩
  refine ⟨fun z => ?_, fun z => bad 1 (by rw [s1, if_neg (fun u => z (e.mpr u))])⟩
  have k19 := e.mp z
  rw [if_pos k19] at s1
  have ww := wn k19
  refine p_find (o := o) (n := c) (f := f) hka (by omega) hl2 hf ?_
  rw [ww]
  dsimp only [x_int, x_lng, x_ild, x_lld, x_ald, x_ist, x_ast, x_lst, x_inc, x_ii, x_id, x_i, x_ll, x_ld, x_l, x_cmp, x_i2l, x_l2i, x_if, x_ic, x_dup, x_pop, x_dup2, x_gI, x_gL, x_gR, x_g1, x_g0, x_gP, x_pI, x_pZ, x_pL, x_pP, x_al, x_as, x_all, x_asl, x_alr, x_len, x_cpy, x_m2, x_m1, x_m2l, x_m1l, x_call, x_cv, x_ri, x_rz, x_rl, x_rv, zg, zset, zbef, zlong, zcat, cond_true, cond_false, List.take, List.drop, rv1, rv2, rv3, rv4, rv5, rv6, rv7, sm0, sm1, bl0, bl1, bl2, bl3, bl4, bl5, bl6, bl7, bl8, List.nil_append, List.cons_append, List.length_cons, List.length_nil, Nat.reduceBEq, Nat.reduceAdd, Nat.reduceSub, ta, tb, tn0, tn1, tn2, tn3, tn4, tn5, tn6, tn7, tn8, tn9, tn10, tn11, tn12]
  cases ef : fnd f (vl B n i) c with
  | some b =>
    rw [ef] at s1
    have := fnd_lt ef
    refine ⟨fun y => ?_, fun _ => bad 3 s1⟩
    have y : nI b < nI 0 := y
    rw [n_lt (by omega) (by omega)] at y
    omega
  | none =>
    rw [ef] at s1
    rw [s1] at hK
    refine ⟨fun _ => ?_, fun y => absurd (show (-1 : Int32) < 0 by decide) y⟩
    rw [hka, n_add, ww, n_cl (n := o + c) (by omega)]
    obtain ⟨J1, e1, y1, k1⟩ := zsI_ex I L P ka 0 (o + c) (vl B n i)
    dsimp only [cond_true]
    rw [e1]
    refine ⟨n_zin hl (by omega), p_next (hp.q (fun a q u => k1 _ _ _ (by omega))) (h.q (fun q u1 u2 => k1 _ _ _ (by omega))) (fun I2 f2 t2 => ?_)⟩
    dsimp only [x_int, x_lng, x_ild, x_lld, x_ald, x_ist, x_ast, x_lst, x_inc, x_ii, x_id, x_i, x_ll, x_ld, x_l, x_cmp, x_i2l, x_l2i, x_if, x_ic, x_dup, x_pop, x_dup2, x_gI, x_gL, x_gR, x_g1, x_g0, x_gP, x_pI, x_pZ, x_pL, x_pP, x_al, x_as, x_all, x_asl, x_alr, x_len, x_cpy, x_m2, x_m1, x_m2l, x_m1l, x_call, x_cv, x_ri, x_rz, x_rl, x_rv, zg, zset, zbef, zlong, zcat, cond_true, cond_false, List.take, List.drop, rv1, rv2, rv3, rv4, rv5, rv6, rv7, sm0, sm1, bl0, bl1, bl2, bl3, bl4, bl5, bl6, bl7, bl8, List.nil_append, List.cons_append, List.length_cons, List.length_nil, Nat.reduceBEq, Nat.reduceAdd, Nat.reduceSub, ta, tb, tn0, tn1, tn2, tn3, tn4, tn5, tn6, tn7, tn8, tn9, tn10, tn11, tn12]
    refine ⟨Or.inr rfl, hK I2 (fun a b q u => (f2 a b q (fun v => u ⟨v.2.1, Or.inl ⟨v.1, by omega⟩⟩)).trans (k1 a b q (fun v => u ⟨v.2.1, Or.inr ⟨v.1, v.2.2⟩⟩))) t2 (fun j _ => ?_)⟩
    rw [f2 _ _ _ (by omega), y1]
theorem p_thereIn {K : zQ} {I : zI} {L : zJ} {P : zP} {B : Nat → Nat} {n i ka o c : Nat} {f : Nat → Int32} (hka : (zsrt ka == 1 && zaux ka == 0) = true) (hl : o + c ≤ zlen ka) (hl2 : zlen ka < 2147483648) (hf : ∀ i, i < c → I ka 0 (o + i) = f i) (hp : RTp B n I) (h : tkR B n i I) (hK : ∀ I' : zI, ony (fun a q => a = 12 ∧ (4 ≤ q ∧ q ≤ 11 ∧ ¬ q = 6)) I I' → stR B n (tnA B n f c (.inl i)) I' → (∀ j, tnA B n f c (.inl i) = .inl j → I' 12 0 11 = wbR (fnd f (vl B n i) c)) → K [.inl (aB (tnA B n f c (.inl i)))] (I', L, P)) : mX12_thereIn K [refR, .inr (.inr (ka, 0)), .inl (nI o), .inl (nI c)] (I, L, P) := by
  have e := RTk_name h.k
  have wn := (RTk_which h.k).2.1
  have s1 : tnA B n f c (.inl i) = if kd B n i = 19 then (match fnd f (vl B n i) c with
      | none => .inr (4, i)
      | some _ => .inl (i + 1)) else .inr (1, i) := rfl
  show bX12_thereIn_0 K [some (.inr (.inr (12,0))), some (.inr (.inr (ka,0))), some (.inl (nI o)), some (.inl (nI c)), none] [] (I, L, P)
  unfold bX12_thereIn_0
  dsimp only [x_int, x_lng, x_ild, x_lld, x_ald, x_ist, x_ast, x_lst, x_inc, x_ii, x_id, x_i, x_ll, x_ld, x_l, x_cmp, x_i2l, x_l2i, x_if, x_ic, x_dup, x_pop, x_dup2, x_gI, x_gL, x_gR, x_g1, x_g0, x_gP, x_pI, x_pZ, x_pL, x_pP, x_al, x_as, x_all, x_asl, x_alr, x_len, x_cpy, x_m2, x_m1, x_m2l, x_m1l, x_call, x_cv, x_ri, x_rz, x_rl, x_rv, zg, zset, zbef, zlong, zcat, cond_true, cond_false, List.take, List.drop, rv1, rv2, rv3, rv4, rv5, rv6, rv7, sm0, sm1, bl0, bl1, bl2, bl3, bl4, bl5, bl6, bl7, bl8, List.nil_append, List.cons_append, List.length_cons, List.length_nil, Nat.reduceBEq, Nat.reduceAdd, Nat.reduceSub, ta, tb, tn0, tn1, tn2, tn3, tn4, tn5, tn6, tn7, tn8, tn9, tn10, tn11, tn12]
  refine ⟨fun z => ?_, fun z => ?_⟩
  · have k19 := e.mp z
    rw [if_pos k19] at s1
    have ww := wn k19
    refine p_find (o := o) (n := c) (f := f) hka hl hl2 hf ?_
    rw [ww]
    dsimp only [x_int, x_lng, x_ild, x_lld, x_ald, x_ist, x_ast, x_lst, x_inc, x_ii, x_id, x_i, x_ll, x_ld, x_l, x_cmp, x_i2l, x_l2i, x_if, x_ic, x_dup, x_pop, x_dup2, x_gI, x_gL, x_gR, x_g1, x_g0, x_gP, x_pI, x_pZ, x_pL, x_pP, x_al, x_as, x_all, x_asl, x_alr, x_len, x_cpy, x_m2, x_m1, x_m2l, x_m1l, x_call, x_cv, x_ri, x_rz, x_rl, x_rv, zg, zset, zbef, zlong, zcat, cond_true, cond_false, List.take, List.drop, rv1, rv2, rv3, rv4, rv5, rv6, rv7, sm0, sm1, bl0, bl1, bl2, bl3, bl4, bl5, bl6, bl7, bl8, List.nil_append, List.cons_append, List.length_cons, List.length_nil, Nat.reduceBEq, Nat.reduceAdd, Nat.reduceSub, ta, tb, tn0, tn1, tn2, tn3, tn4, tn5, tn6, tn7, tn8, tn9, tn10, tn11, tn12]
    cases ef : fnd f (vl B n i) c with
    | none =>
      rw [ef] at s1
      rw [s1] at hK
      refine ⟨fun y => absurd y (by decide), fun _ => p_wrong h (fun I1 f1 s1 => ?_)⟩
      exact ⟨Or.inl rfl, hK I1 (f1.mono (fun a c u => ⟨u.1, by omega⟩)) s1 (fun j ej => by cases ej)⟩
    | some b =>
      rw [ef] at s1 hK
      rw [s1] at hK
      have := fnd_lt ef
      refine ⟨fun _ => p_next hp h (fun I2 f2 t2 => ?_), fun y => absurd (show nI 0 ≤ nI b by rw [n_le (by omega) (by omega)]; omega) y⟩
      dsimp only [x_int, x_lng, x_ild, x_lld, x_ald, x_ist, x_ast, x_lst, x_inc, x_ii, x_id, x_i, x_ll, x_ld, x_l, x_cmp, x_i2l, x_l2i, x_if, x_ic, x_dup, x_pop, x_dup2, x_gI, x_gL, x_gR, x_g1, x_g0, x_gP, x_pI, x_pZ, x_pL, x_pP, x_al, x_as, x_all, x_asl, x_alr, x_len, x_cpy, x_m2, x_m1, x_m2l, x_m1l, x_call, x_cv, x_ri, x_rz, x_rl, x_rv, zg, zset, zbef, zlong, zcat, cond_true, cond_false, List.take, List.drop, rv1, rv2, rv3, rv4, rv5, rv6, rv7, sm0, sm1, bl0, bl1, bl2, bl3, bl4, bl5, bl6, bl7, bl8, List.nil_append, List.cons_append, List.length_cons, List.length_nil, Nat.reduceBEq, Nat.reduceAdd, Nat.reduceSub, ta, tb, tn0, tn1, tn2, tn3, tn4, tn5, tn6, tn7, tn8, tn9, tn10, tn11, tn12]
      obtain ⟨J1, e1, y1, k1⟩ := zsI_ex I2 L P 12 0 11 (wbR (some b))
      rw [e1]
      exact ⟨Or.inr rfl, hK J1 (fun a b q u => (k1 a b q (fun v => u ⟨v.2.1, v.1, by omega⟩)).trans (f2 a b q (fun v => u ⟨v.2.1, v.1, by omega⟩))) (t2.q (fun c u1 u2 => k1 _ _ _ (by omega))) (fun j _ => y1)⟩
  · rw [if_neg (fun u => z (e.mpr u))] at s1
    rw [s1] at hK
    refine p_wrong h (fun I1 f1 s1 => ?_)
    exact ⟨Or.inl rfl, hK I1 (f1.mono (fun a c u => ⟨u.1, by omega⟩)) s1 (fun j ej => by cases ej)⟩
