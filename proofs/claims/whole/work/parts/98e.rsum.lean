-- THE REFERENCE'S SUMS
def RKp (I : zI) : List Int32 → Nat → List Nat → List Nat → Prop
  | [], _, st, en => st = en
  | c :: cs, p, st, en => p < 64 ∧ ∃ st', RK1 I p c st st' ∧ RKp I cs (p + 1) st' en
theorem RKp_snoc {I : zI} {c : Int32} {en en' : List Nat} : ∀ {cs : List Int32} {p : Nat} {st : List Nat}, RKp I cs p st en → p + cs.length < 64 → RK1 I (p + cs.length) c en en' → RKp I (cs ++ [c]) p st en' := by
  intro cs
  induction cs with
  | nil =>
    intro p st h h2 h3
    have h : st = en := h
    subst h
    exact ⟨h2, en', h3, rfl⟩
  | cons d cs ih =>
    rintro p st ⟨h1, st', h2, h3⟩ h4 h5
    rw [List.length_cons] at h4 h5
    refine ⟨h1, st', h2, ih h3 (by omega) ?_⟩
    rw [show p + 1 + cs.length = p + (cs.length + 1) by omega]
    exact h5
theorem RKp_RK {I : zI} {q : Nat} : ∀ {cs : List Int32} {p : Nat} {st : List Nat}, RKp I cs p st [q] → p + cs.length = q + 1 → RK I cs p st := by
  intro cs
  induction cs with
  | nil => intro p st h h2; exact ⟨q, h2, h⟩
  | cons d cs ih =>
    rintro p st ⟨h1, st', h2, h3⟩ h4
    rw [List.length_cons] at h4
    exact ⟨h1, st', h2, ih h3 (by omega)⟩
theorem RKp_frb {I I' : zI} {en : List Nat} : ∀ (cs : List Int32) (p : Nat) (st : List Nat), (∀ a c, a = 69 ∨ a = 70 ∨ a = 71 → c < p + cs.length → I' a 0 c = I a 0 c) → RKp I cs p st en → RKp I' cs p st en := by
  intro cs
  induction cs with
  | nil => intro p st _ h; exact h
  | cons c cs ih =>
    rintro p st e ⟨h1, st', h2, h3⟩
    have e1 : ∀ a, a = 69 ∨ a = 70 ∨ a = 71 → I' a 0 p = I a 0 p := fun a u => e a p u (by rw [List.length_cons]; omega)
    refine ⟨h1, st', ?_, ih (p + 1) st' (fun a c u v => e a c u (by rw [List.length_cons]; omega)) h3⟩
    unfold RK1 at h2 ⊢
    rw [e1 69 (by omega), e1 70 (by omega), e1 71 (by omega)]
    exact h2
/-- what waits, by the reference's numbers -/
def kc (k : Nat) : Nat := if k = 22 then 0 else if k = 11 then 2 else if k = 10 then 3 else if k = 9 then 4 else if 28 ≤ k then k - 23 else k - 13
def wR (I : zI) : List Nat → Prop
  | [] => True
  | k :: r => I 72 0 r.length = nI (kc k) ∧ wR I r
def hR (I : zI) : List Nat → Prop
  | [] => True
  | h :: r => I 73 0 r.length = nI h ∧ hR I r
theorem wR.q {I I' : zI} : ∀ {ws : List Nat}, wR I ws → (∀ c, c < ws.length → I' 72 0 c = I 72 0 c) → wR I' ws := by
  intro ws
  induction ws with
  | nil => intro _ _; exact trivial
  | cons k ws ih =>
    intro h e
    exact ⟨(e _ (Nat.lt_succ_self _)).trans h.1, ih h.2 (fun c hc => e c (Nat.lt_succ_of_lt hc))⟩
theorem hR.q {I I' : zI} : ∀ {ws : List Nat}, hR I ws → (∀ c, c < ws.length → I' 73 0 c = I 73 0 c) → hR I' ws := by
  intro ws
  induction ws with
  | nil => intro _ _; exact trivial
  | cons k ws ih =>
    intro h e
    exact ⟨(e _ (Nat.lt_succ_self _)).trans h.1, ih h.2 (fun c hc => e c (Nat.lt_succ_of_lt hc))⟩
def nbW : List Nat → Nat
  | [] => 0
  | k :: ws => nbW ws + (if k = 22 ∨ k = 11 then 0 else 1)
theorem nbW_le : ∀ ws : List Nat, nbW ws + opn ws ≤ ws.length := by
  intro ws
  induction ws with
  | nil => exact Nat.le_refl 0
  | cons k ws ih =>
    show nbW ws + (if k = 22 ∨ k = 11 then 0 else 1) + (opn ws + (if k = 22 then 1 else 0)) ≤ ws.length + 1
    split <;> split <;> omega
theorem kc_rk {k : Nat} (h : sgK k) : kc k ≤ 14 ∧ (13 ≤ kc k ↔ rkC k = 6) ∧ (11 ≤ kc k ↔ 5 ≤ rkC k) ∧ (5 ≤ kc k ↔ 4 ≤ rkC k) ∧ (kc k = 2 ↔ rkC k = 3) ∧ (kc k = 3 ↔ rkC k = 2) ∧ (kc k = 4 ↔ rkC k = 1) ∧ rkC k ≤ 6 ∧ (kc k = 2 ↔ k = 11) := by
  have k34 : k < 34 := by unfold sgK isB at h; omega
  have t1 : ∀ k, k < 34 → sgK k → kc k ≤ 14 ∧ (13 ≤ kc k ↔ rkC k = 6) ∧ (11 ≤ kc k ↔ 5 ≤ rkC k) := by decide
  have t2 : ∀ k, k < 34 → sgK k → (5 ≤ kc k ↔ 4 ≤ rkC k) ∧ (kc k = 2 ↔ rkC k = 3) ∧ (kc k = 3 ↔ rkC k = 2) := by decide
  have t3 : ∀ k, k < 34 → sgK k → (kc k = 4 ↔ rkC k = 1) ∧ rkC k ≤ 6 ∧ (kc k = 2 ↔ k = 11) := by decide
  exact ⟨(t1 k k34 h).1, (t1 k k34 h).2.1, (t1 k k34 h).2.2, (t2 k k34 h).1, (t2 k k34 h).2.1, (t2 k k34 h).2.2, (t3 k k34 h).1, (t3 k k34 h).2.1, (t3 k k34 h).2.2⟩
theorem p_rank {K : zQ} {M : zM} {k : Nat} (hk : sgK k) (hK : K [.inl (nI (rkC k))] M) : mX12_rank K [.inl (nI (kc k))] M := by
  obtain ⟨b, e6, e5, e4, e3, e2, e1, r6, -⟩ := kc_rk hk
  show bX12_rank_0 K [some (.inl (nI (kc k)))] [] M
  unfold bX12_rank_0 bX12_rank_58
  dsimp only [x_int, x_lng, x_ild, x_lld, x_ald, x_ist, x_ast, x_lst, x_inc, x_ii, x_id, x_i, x_ll, x_ld, x_l, x_cmp, x_i2l, x_l2i, x_if, x_ic, x_dup, x_pop, x_dup2, x_gI, x_gL, x_gR, x_g1, x_g0, x_gP, x_pI, x_pZ, x_pL, x_pP, x_al, x_as, x_all, x_asl, x_alr, x_len, x_cpy, x_m2, x_m1, x_m2l, x_m1l, x_call, x_cv, x_ri, x_rz, x_rl, x_rv, zg, zset, zbef, zlong, zcat, cond_true, cond_false, List.take, List.drop, rv1, rv2, rv3, rv4, rv5, rv6, rv7, sm0, sm1, bl0, bl1, bl2, bl3, bl4, bl5, bl6, bl7, bl8, List.nil_append, List.cons_append, List.length_cons, List.length_nil, Nat.reduceBEq, Nat.reduceAdd, Nat.reduceSub, ta, tb, tn0, tn1, tn2, tn3, tn4, tn5, tn6, tn7, tn8, tn9, tn10, tn11, tn12]
  have go : ∀ v : Nat, rkC k = v → K [.inl (nI v)] M := fun v e => by rw [← e]; exact hK
  refine ⟨fun a1 => ⟨fun a2 => ⟨fun a3 => ⟨fun a4 => go 3 ?_, fun a4 => ⟨fun a5 => go 2 ?_, fun a5 => ⟨fun a6 => go 1 ?_, fun a6 => go 0 ?_⟩⟩⟩, fun a3 => go 4 ?_⟩, fun a2 => go 5 ?_⟩, fun a1 => go 6 ?_⟩
  · have a4 : nI (kc k) = nI 2 := a4
    rw [n_eq (by omega) (by omega)] at a4; omega
  · have a5 : nI (kc k) = nI 3 := a5
    rw [n_eq (by omega) (by omega)] at a5; omega
  · have a6 : nI (kc k) = nI 4 := a6
    rw [n_eq (by omega) (by omega)] at a6; omega
  · have a3 : nI (kc k) < nI 5 := a3
    have a4 : ¬ nI (kc k) = nI 2 := a4
    have a5 : ¬ nI (kc k) = nI 3 := a5
    have a6 : ¬ nI (kc k) = nI 4 := a6
    rw [n_lt (by omega) (by omega)] at a3
    rw [n_eq (by omega) (by omega)] at a4 a5 a6
    omega
  · have a2 : nI (kc k) < nI 11 := a2
    have a3 : ¬ nI (kc k) < nI 5 := a3
    rw [n_lt (by omega) (by omega)] at a2 a3
    omega
  · have a1 : nI (kc k) < nI 13 := a1
    have a2 : ¬ nI (kc k) < nI 11 := a2
    rw [n_lt (by omega) (by omega)] at a1 a2
    omega
  · have a1 : ¬ nI (kc k) < nI 13 := a1
    rw [n_lt (by omega) (by omega)] at a1
    omega
theorem p_grown {K : zQ} {I : zI} {L : zJ} {P : zP} {p m : Nat} {k x y : Int32} (hp : p < 64) (hm : m < 96) (h19 : I 12 0 19 = nI p) (h42 : I 12 0 42 = nI m) (hK : ∀ I' : zI, ony (fun a q => (a = 12 ∧ (q = 42 ∨ q = 19)) ∨ ((69 ≤ a ∧ a ≤ 71) ∧ q = 64 + p) ∨ (a = 73 ∧ q = m)) I I' → I' 69 0 (64 + p) = k → I' 70 0 (64 + p) = x → I' 71 0 (64 + p) = y → I' 73 0 m = nI p → I' 12 0 42 = nI (m + 1) → I' 12 0 19 = nI (p + 1) → K [] (I', L, P)) : mX12_grown K [refR, .inl k, .inl x, .inl y] (I, L, P) := by
  show bX12_grown_0 K [some (.inr (.inr (12,0))), some (.inl k), some (.inl x), some (.inl y)] [] (I, L, P)
  unfold bX12_grown_0
  dsimp only [x_int, x_lng, x_ild, x_lld, x_ald, x_ist, x_ast, x_lst, x_inc, x_ii, x_id, x_i, x_ll, x_ld, x_l, x_cmp, x_i2l, x_l2i, x_if, x_ic, x_dup, x_pop, x_dup2, x_gI, x_gL, x_gR, x_g1, x_g0, x_gP, x_pI, x_pZ, x_pL, x_pP, x_al, x_as, x_all, x_asl, x_alr, x_len, x_cpy, x_m2, x_m1, x_m2l, x_m1l, x_call, x_cv, x_ri, x_rz, x_rl, x_rv, zg, zset, zbef, zlong, zcat, cond_true, cond_false, List.take, List.drop, rv1, rv2, rv3, rv4, rv5, rv6, rv7, sm0, sm1, bl0, bl1, bl2, bl3, bl4, bl5, bl6, bl7, bl8, List.nil_append, List.cons_append, List.length_cons, List.length_nil, Nat.reduceBEq, Nat.reduceAdd, Nat.reduceSub, ta, tb, tn0, tn1, tn2, tn3, tn4, tn5, tn6, tn7, tn8, tn9, tn10, tn11, tn12, zk_69, zl_69, zk_70, zl_70, zk_71, zl_71, zk_73, zl_73, cond_true]
  rw [h19, show (64 : Int32) + nI p = nI (64 + p) from n_add 64 p, n_cl (n := 64 + p) (by omega)]
  refine ⟨n_zin (by show 64 + p < 128; omega) (by decide), ?_⟩
  obtain ⟨J1, g1, x1, k1⟩ := zsI_ex I L P 69 0 (64 + p) k
  rw [g1]
  dsimp only
  rw [k1 12 0 19 (by omega), h19, show (64 : Int32) + nI p = nI (64 + p) from n_add 64 p, n_cl (n := 64 + p) (by omega)]
  refine ⟨n_zin (by show 64 + p < 128; omega) (by decide), ?_⟩
  obtain ⟨J2, g2, x2, k2⟩ := zsI_ex J1 L P 70 0 (64 + p) x
  rw [g2]
  dsimp only
  rw [k2 12 0 19 (by omega), k1 12 0 19 (by omega), h19, show (64 : Int32) + nI p = nI (64 + p) from n_add 64 p, n_cl (n := 64 + p) (by omega)]
  refine ⟨n_zin (by show 64 + p < 128; omega) (by decide), ?_⟩
  obtain ⟨J3, g3, x3, k3⟩ := zsI_ex J2 L P 71 0 (64 + p) y
  rw [g3]
  dsimp only
  have e19 : J3 12 0 19 = nI p := by rw [k3 _ _ _ (by omega), k2 _ _ _ (by omega), k1 _ _ _ (by omega)]; exact h19
  have e42 : J3 12 0 42 = nI m := by rw [k3 _ _ _ (by omega), k2 _ _ _ (by omega), k1 _ _ _ (by omega)]; exact h42
  rw [e19, e42, n_cl (n := m) (by omega)]
  refine ⟨n_zin (by show m < 96; omega) (by decide), ?_⟩
  obtain ⟨J4, g4, x4, k4⟩ := zsI_ex J3 L P 73 0 m (nI p)
  rw [g4]
  dsimp only
  rw [k4 12 0 42 (by omega), e42, n_succ]
  obtain ⟨J5, g5, x5, k5⟩ := zsI_ex J4 L P 12 0 42 (nI (m + 1))
  rw [g5]
  dsimp only
  rw [k5 12 0 19 (by decide), k4 12 0 19 (by omega), e19, n_succ]
  obtain ⟨J6, g6, x6, k6⟩ := zsI_ex J5 L P 12 0 19 (nI (p + 1))
  rw [g6]
  refine hK J6 (fun a b q u => ?_) ?_ ?_ ?_ ?_ ?_ x6
  · rw [k6 a b q (fun v => u ⟨v.2.1, by omega⟩), k5 a b q (fun v => u ⟨v.2.1, by omega⟩), k4 a b q (fun v => u ⟨v.2.1, by omega⟩), k3 a b q (fun v => u ⟨v.2.1, by omega⟩), k2 a b q (fun v => u ⟨v.2.1, by omega⟩), k1 a b q (fun v => u ⟨v.2.1, by omega⟩)]
  · rw [k6 _ _ _ (by omega), k5 _ _ _ (by omega), k4 _ _ _ (by omega), k3 _ _ _ (by omega), k2 _ _ _ (by omega)]; exact x1
  · rw [k6 _ _ _ (by omega), k5 _ _ _ (by omega), k4 _ _ _ (by omega), k3 _ _ _ (by omega)]; exact x2
  · rw [k6 _ _ _ (by omega), k5 _ _ _ (by omega), k4 _ _ _ (by omega)]; exact x3
  · rw [k6 _ _ _ (by omega), k5 _ _ _ (by omega)]; exact x4
  · rw [k6 _ _ _ (by decide)]; exact x5
theorem p_dropHeld {K : zQ} {I : zI} {L : zJ} {P : zP} {m : Nat} {v : Int32} (hm : m < 96) (h42 : I 12 0 42 = nI (m + 1)) (hv : I 73 0 m = v) (hK : ∀ I' : zI, ony (fun a q => a = 12 ∧ q = 42) I I' → I' 12 0 42 = nI m → K [.inl v] (I', L, P)) : mX12_dropHeld K [refR] (I, L, P) := by
  show bX12_dropHeld_0 K [some (.inr (.inr (12,0)))] [] (I, L, P)
  unfold bX12_dropHeld_0
  dsimp only [x_int, x_lng, x_ild, x_lld, x_ald, x_ist, x_ast, x_lst, x_inc, x_ii, x_id, x_i, x_ll, x_ld, x_l, x_cmp, x_i2l, x_l2i, x_if, x_ic, x_dup, x_pop, x_dup2, x_gI, x_gL, x_gR, x_g1, x_g0, x_gP, x_pI, x_pZ, x_pL, x_pP, x_al, x_as, x_all, x_asl, x_alr, x_len, x_cpy, x_m2, x_m1, x_m2l, x_m1l, x_call, x_cv, x_ri, x_rz, x_rl, x_rv, zg, zset, zbef, zlong, zcat, cond_true, cond_false, List.take, List.drop, rv1, rv2, rv3, rv4, rv5, rv6, rv7, sm0, sm1, bl0, bl1, bl2, bl3, bl4, bl5, bl6, bl7, bl8, List.nil_append, List.cons_append, List.length_cons, List.length_nil, Nat.reduceBEq, Nat.reduceAdd, Nat.reduceSub, ta, tb, tn0, tn1, tn2, tn3, tn4, tn5, tn6, tn7, tn8, tn9, tn10, tn11, tn12, zk_73, zl_73, cond_true]
  rw [h42, n_pred]
  obtain ⟨J1, g1, x1, k1⟩ := zsI_ex I L P 12 0 42 (nI m)
  rw [g1]
  dsimp only
  rw [x1, n_cl (n := m) (by omega), k1 73 0 m (by omega), hv]
  exact ⟨n_zin (by show m < 96; omega) (by decide), hK J1 (fun a b q u => k1 a b q (fun v => u ⟨v.2.1, v.1, v.2.2⟩)) x1⟩
/-- what binds -/
def XB (I : zI) (a : Nat) (cs : List Int32) (ws hs : List Nat) : Prop := I 12 0 41 = nI ws.length ∧ wR I ws ∧ I 12 0 42 = nI hs.length ∧ hR I hs ∧ I 12 0 19 = nI (a + cs.length) ∧ RKp (vk I) cs a [] hs
def hdO (a : Nat) (cs : List Int32) (hs : List Nat) : Prop := ∃ q r, hs = q :: r ∧ a + cs.length = q + 1
def bK (a0 : Nat) (a q : Nat) : Prop := (a = 12 ∧ (q = 41 ∨ q = 42 ∨ q = 19)) ∨ ((69 ≤ a ∧ a ≤ 71) ∧ 64 + a0 ≤ q) ∨ a = 73
theorem kns_kc {k : Nat} (h : isB k) : (nI k, nI (kc k)) ∈ kns := by
  have : ∀ k, k < 34 → isB k → (nI k, nI (kc k)) ∈ kns := by decide
  exact this k (by unfold isB at h; omega) h
theorem ng_k {k : Nat} (h0 : 1 ≤ k) (h : k < 34) : -(nI k) < 0 ∧ - -(nI k) = nI k := by
  have : ∀ k, k < 34 → 1 ≤ k → -(nI k) < 0 ∧ - -(nI k) = nI k := by decide
  exact this k h h0
theorem p_bind {K : zQ} {I : zI} {L : zJ} {P : zP} {r a : Nat} {cs : List Int32} {ws hs : List Nat} (hr : 1 ≤ r ∧ r ≤ 6) (hX : XB I a cs ws hs) (hd : hdO a cs hs) (hl : hs.length = nbW ws + 1) (hw : ∀ x, x ∈ ws → sgK x) (hn : a + cs.length + (ws.length - opn ws) ≤ 64) (h72 : ws.length ≤ 72) (hK : ∀ (I' : zI) (hs' : List Nat), ony (bK a) I I' → XB I' a (cs ++ (popC r ws).1) (popC r ws).2 hs' → hdO a (cs ++ (popC r ws).1) hs' → hs'.length = nbW (popC r ws).2 + 1 → K [] (I', L, P)) : mX12_bind K [refR, .inl (nI r)] (I, L, P) := by
  show bX12_bind_0 K [some refR, some (.inl (nI r)), none, none, none] [] (I, L, P)
  refine zmea (fun k Z M => ∃ (I' : zI) (u : List Nat) (cu : List Int32) (hu : List Nat) (z2 z3 z4 : Option zV), Z = [some refR, some (.inl (nI r)), z2, z3, z4] ∧ M = (I', L, P) ∧ k = u.length ∧ u.length ≤ 72 ∧ (∀ x, x ∈ u → sgK x) ∧ ony (bK a) I I' ∧ XB I' a cu u hu ∧ hdO a cu hu ∧ hu.length = nbW u + 1 ∧ a + cu.length + (u.length - opn u) ≤ 64 ∧ cs ++ (popC r ws).1 = cu ++ (popC r u).1 ∧ (popC r ws).2 = (popC r u).2) ?_ ws.length ⟨I, ws, cs, hs, none, none, none, rfl, rfl, rfl, h72, hw, fun _ _ _ _ => rfl, hX, hd, hl, hn, rfl, rfl⟩
  rintro k Z M ⟨I', u, cu, hu, z2, z3, z4, rfl, rfl, q1, q2, q3, q4, q5, q6, q7, q8, q9, q10⟩ self hself
  have stop : (popC r u).1 = [] → (popC r u).2 = u → K [] (I', L, P) := fun y1 y2 => by
    rw [y1, List.append_nil] at q9
    rw [y2] at q10
    rw [q9, q10] at hK
    exact hK I' hu q4 q5 q6 q7
  obtain ⟨x1, x2, x3, x4, x5, x6⟩ := q5
  dsimp only [x_int, x_lng, x_ild, x_lld, x_ald, x_ist, x_ast, x_lst, x_inc, x_ii, x_id, x_i, x_ll, x_ld, x_l, x_cmp, x_i2l, x_l2i, x_if, x_ic, x_dup, x_pop, x_dup2, x_gI, x_gL, x_gR, x_g1, x_g0, x_gP, x_pI, x_pZ, x_pL, x_pP, x_al, x_as, x_all, x_asl, x_alr, x_len, x_cpy, x_m2, x_m1, x_m2l, x_m1l, x_call, x_cv, x_ri, x_rz, x_rl, x_rv, zg, zset, zbef, zlong, zcat, cond_true, cond_false, List.take, List.drop, rv1, rv2, rv3, rv4, rv5, rv6, rv7, sm0, sm1, bl0, bl1, bl2, bl3, bl4, bl5, bl6, bl7, bl8, List.nil_append, List.cons_append, List.length_cons, List.length_nil, Nat.reduceBEq, Nat.reduceAdd, Nat.reduceSub, ta, tb, tn0, tn1, tn2, tn3, tn4, tn5, tn6, tn7, tn8, tn9, tn10, tn11, tn12, zk_72, zl_72, cond_true, bX12_bind_76]
  rw [x1]
  cases u with
  | nil => exact ⟨fun _ => stop rfl rfl, fun z => absurd (Int32.le_refl _) z⟩
  | cons k1 u =>
    have ul : u.length + 1 ≤ 72 := q2
    have lc : (k1 :: u).length = u.length + 1 := rfl
    have sk := q3 k1 (List.mem_cons_self ..)
    obtain ⟨t1, t2⟩ := x2
    have rk6 := (kc_rk sk).2.2.2.2.2.2.2.1
    have kc14 := (kc_rk sk).1
    rw [List.length_cons, n_pred, n_cl (n := u.length) (by omega), t1]
    refine ⟨fun z => ?_, fun _ => ⟨n_zin (by show u.length < 96; omega) (by decide), p_rank sk ?_⟩⟩
    · have z : nI (u.length + 1) ≤ nI 0 := z
      rw [n_le (by omega) (by omega)] at z
      omega
    dsimp only [x_int, x_lng, x_ild, x_lld, x_ald, x_ist, x_ast, x_lst, x_inc, x_ii, x_id, x_i, x_ll, x_ld, x_l, x_cmp, x_i2l, x_l2i, x_if, x_ic, x_dup, x_pop, x_dup2, x_gI, x_gL, x_gR, x_g1, x_g0, x_gP, x_pI, x_pZ, x_pL, x_pP, x_al, x_as, x_all, x_asl, x_alr, x_len, x_cpy, x_m2, x_m1, x_m2l, x_m1l, x_call, x_cv, x_ri, x_rz, x_rl, x_rv, zg, zset, zbef, zlong, zcat, cond_true, cond_false, List.take, List.drop, rv1, rv2, rv3, rv4, rv5, rv6, rv7, sm0, sm1, bl0, bl1, bl2, bl3, bl4, bl5, bl6, bl7, bl8, List.nil_append, List.cons_append, List.length_cons, List.length_nil, Nat.reduceBEq, Nat.reduceAdd, Nat.reduceSub, ta, tb, tn0, tn1, tn2, tn3, tn4, tn5, tn6, tn7, tn8, tn9, tn10, tn11, tn12, zk_72, zl_72, cond_true, bX12_bind_76]
    refine ⟨fun z => ?_, fun z => ?_⟩
    · have z : nI (rkC k1) < nI r := z
      rw [n_lt (by omega) (by omega)] at z
      have e : popC r (k1 :: u) = ([], k1 :: u) := by unfold popC; rw [if_neg (by omega)]
      exact stop (by rw [e]) (by rw [e])
    have z : ¬ nI (rkC k1) < nI r := z
    rw [n_lt (by omega) (by omega)] at z
    have e : popC r (k1 :: u) = (-(nI k1) :: (popC r u).1, (popC r u).2) := by
      show (if r ≤ rkC k1 then _ else _) = _
      rw [if_pos (by omega)]
    rw [e] at q9 q10
    have n22 : ¬ k1 = 22 := fun y => by rw [y, rkC_22] at z; omega
    have oe : opn (k1 :: u) = opn u := by show opn u + (if k1 = 22 then 1 else 0) = opn u; rw [if_neg n22]; rfl
    have ol := opn_le u
    rw [oe, List.length_cons] at q8
    have p64 : a + cu.length < 64 := by omega
    have k34 : k1 < 34 ∧ 1 ≤ k1 := by unfold sgK isB at sk; omega
    obtain ⟨ng1, ng2⟩ := ng_k k34.2 k34.1
    rw [x1, List.length_cons, n_pred]
    obtain ⟨J1, g1, y1, f1⟩ := zsI_ex I' L P 12 0 41 (nI u.length)
    rw [g1]
    dsimp only
    rw [y1, n_cl (n := u.length) (by omega), f1 72 0 u.length (by omega), t1]
    refine ⟨n_zin (by show u.length < 96; omega) (by decide), ?_⟩
    obtain ⟨q, hr', eh, eq⟩ := q6
    subst eh
    have h42 : J1 12 0 42 = nI (hr'.length + 1) := by rw [f1 _ _ _ (by decide)]; exact x3
    have h19 : J1 12 0 19 = nI (a + cu.length) := by rw [f1 _ _ _ (by decide)]; exact x5
    have nb := nbW_le (k1 :: u)
    have hlen : hr'.length = nbW (k1 :: u) := by have : hr'.length + 1 = nbW (k1 :: u) + 1 := q7; omega
    rw [List.length_cons] at nb
    -- what is made anew
    have fin : ∀ (J : zI) (rest : List Nat) (x y : Int32), (∃ en, hR J rest ∧ RK1 (vk J) (a + cu.length) (-(nI k1)) (q :: hr') en ∧ en = (a + cu.length) :: rest) → ony (bK a) I' J → (∀ b c, 69 ≤ b → b ≤ 71 → c < 64 + (a + cu.length) → J b 0 c = I' b 0 c) → J 12 0 41 = nI u.length → J 12 0 42 = nI (rest.length + 1) → J 12 0 19 = nI (a + cu.length + 1) → J 73 0 rest.length = nI (a + cu.length) → rest.length = nbW u → ∀ z2 z3 z4 : Option zV, self [some refR, some (.inl (nI r)), z2, z3, z4] [] (J, L, P) := by
      rintro J rest x y ⟨en, w1, w2, rfl⟩ w3 w4 w5 w6 w7 w8 w9 z2 z3 z4
      refine hself u.length _ _ (by omega) ⟨J, u, cu ++ [-(nI k1)], (a + cu.length) :: rest, z2, z3, z4, rfl, rfl, rfl, by omega, fun x hx => q3 x (List.mem_cons_of_mem _ hx), q4.tr w3, ⟨w5, t2.q (fun c hc => w3.lo (fun v => by unfold bK at v; omega)), w6, ⟨w8, w1⟩, ?_, ?_⟩, ⟨a + cu.length, rest, rfl, ?_⟩, ?_, ?_, ?_, q10⟩
      · rw [w7, List.length_append, List.length_singleton, Nat.add_assoc]
      · refine RKp_snoc (RKp_frb (I := vk I') (I' := vk J) _ _ _ (fun b c u1 u2 => w4 b (64 + c) (by omega) (by omega) (by omega)) x6) p64 w2
      · rw [List.length_append, List.length_singleton, Nat.add_assoc]
      · rw [List.length_cons, w9]
      · rw [List.length_append, List.length_singleton]; omega
      · rw [q9, List.append_assoc]; rfl
    refine ⟨fun c2 => ?_, fun c2 => ?_⟩
    · have c2 : nI (kc k1) = nI 2 := c2
      rw [n_eq (by omega) (by omega)] at c2
      have k11 : k1 = 11 := (kc_rk sk).2.2.2.2.2.2.2.2.mp c2
      dsimp only [x_int, x_lng, x_ild, x_lld, x_ald, x_ist, x_ast, x_lst, x_inc, x_ii, x_id, x_i, x_ll, x_ld, x_l, x_cmp, x_i2l, x_l2i, x_if, x_ic, x_dup, x_pop, x_dup2, x_gI, x_gL, x_gR, x_g1, x_g0, x_gP, x_pI, x_pZ, x_pL, x_pP, x_al, x_as, x_all, x_asl, x_alr, x_len, x_cpy, x_m2, x_m1, x_m2l, x_m1l, x_call, x_cv, x_ri, x_rz, x_rl, x_rv, zg, zset, zbef, zlong, zcat, cond_true, cond_false, List.take, List.drop, rv1, rv2, rv3, rv4, rv5, rv6, rv7, sm0, sm1, bl0, bl1, bl2, bl3, bl4, bl5, bl6, bl7, bl8, List.nil_append, List.cons_append, List.length_cons, List.length_nil, Nat.reduceBEq, Nat.reduceAdd, Nat.reduceSub, ta, tb, tn0, tn1, tn2, tn3, tn4, tn5, tn6, tn7, tn8, tn9, tn10, tn11, tn12, bX12_bind_58]
      refine p_dropHeld (m := hr'.length) (v := nI q) (by omega) h42 (by rw [f1 _ _ _ (by omega)]; exact x4.1) (fun I2 f2 s2 => ?_)
      dsimp only [x_int, x_lng, x_ild, x_lld, x_ald, x_ist, x_ast, x_lst, x_inc, x_ii, x_id, x_i, x_ll, x_ld, x_l, x_cmp, x_i2l, x_l2i, x_if, x_ic, x_dup, x_pop, x_dup2, x_gI, x_gL, x_gR, x_g1, x_g0, x_gP, x_pI, x_pZ, x_pL, x_pP, x_al, x_as, x_all, x_asl, x_alr, x_len, x_cpy, x_m2, x_m1, x_m2l, x_m1l, x_call, x_cv, x_ri, x_rz, x_rl, x_rv, zg, zset, zbef, zlong, zcat, cond_true, cond_false, List.take, List.drop, rv1, rv2, rv3, rv4, rv5, rv6, rv7, sm0, sm1, bl0, bl1, bl2, bl3, bl4, bl5, bl6, bl7, bl8, List.nil_append, List.cons_append, List.length_cons, List.length_nil, Nat.reduceBEq, Nat.reduceAdd, Nat.reduceSub, ta, tb, tn0, tn1, tn2, tn3, tn4, tn5, tn6, tn7, tn8, tn9, tn10, tn11, tn12]
      refine p_grown (p := a + cu.length) (m := hr'.length) p64 (by omega) (by rw [f2 _ _ _ (by decide)]; exact h19) s2 (fun I3 f3 v1 v2 v3 v4 v5 v6 => ?_)
      dsimp only [x_int, x_lng, x_ild, x_lld, x_ald, x_ist, x_ast, x_lst, x_inc, x_ii, x_id, x_i, x_ll, x_ld, x_l, x_cmp, x_i2l, x_l2i, x_if, x_ic, x_dup, x_pop, x_dup2, x_gI, x_gL, x_gR, x_g1, x_g0, x_gP, x_pI, x_pZ, x_pL, x_pP, x_al, x_as, x_all, x_asl, x_alr, x_len, x_cpy, x_m2, x_m1, x_m2l, x_m1l, x_call, x_cv, x_ri, x_rz, x_rl, x_rv, zg, zset, zbef, zlong, zcat, cond_true, cond_false, List.take, List.drop, rv1, rv2, rv3, rv4, rv5, rv6, rv7, sm0, sm1, bl0, bl1, bl2, bl3, bl4, bl5, bl6, bl7, bl8, List.nil_append, List.cons_append, List.length_cons, List.length_nil, Nat.reduceBEq, Nat.reduceAdd, Nat.reduceSub, ta, tb, tn0, tn1, tn2, tn3, tn4, tn5, tn6, tn7, tn8, tn9, tn10, tn11, tn12]
      have fa : ∀ b c d, ¬ (c = 0 ∧ bK a b d) → I3 b c d = I' b c d := fun b c d w => by
        rw [f3 b c d (fun v => w ⟨v.1, by unfold bK; omega⟩), f2 b c d (fun v => w ⟨v.1, by unfold bK; omega⟩), f1 b c d (fun v => w ⟨v.2.1, by unfold bK; omega⟩)]
      refine fin I3 hr' 0 0 ⟨_, ?_, ?_, rfl⟩ fa (fun b c u1 u2 u3 => ?_) ?_ v5 v6 v4 ?_ _ _ _
      · exact hR.q x4.2 (fun c hc => by rw [f3 _ _ _ (by omega), f2 _ _ _ (by omega), f1 _ _ _ (by omega)])
      · refine Or.inr (Or.inr (Or.inl ⟨ng1, ?_, ?_, q, hr', rfl, ?_, v2, rfl⟩))
        · rw [ng2, k11]; decide
        · rw [ng2, k11]; rfl
        · have v1 : I3 69 0 (64 + (a + cu.length)) = nI (kc k1) := v1
          rw [c2] at v1; exact v1
      · rw [f3 _ _ _ (by omega), f2 _ _ _ (by omega), f1 _ _ _ (by omega)]
      · rw [f3 _ _ _ (by omega), f2 _ _ _ (by decide)]; exact y1
      · rw [hlen]
        show nbW u + (if k1 = 22 ∨ k1 = 11 then 0 else 1) = nbW u
        rw [if_pos (Or.inr k11)]; rfl
    · have c2 : ¬ nI (kc k1) = nI 2 := c2
      rw [n_eq (by omega) (by omega)] at c2
      have k11 : ¬ k1 = 11 := fun y => c2 ((kc_rk sk).2.2.2.2.2.2.2.2.mpr y)
      have isb : isB k1 := sk.resolve_right (fun y => y.elim k11 n22)
      have nb1 : nbW (k1 :: u) = nbW u + 1 := by
        show nbW u + (if k1 = 22 ∨ k1 = 11 then 0 else 1) = nbW u + 1
        rw [if_neg (by omega)]
      cases hr' with
      | nil => rw [nb1] at hlen; exact absurd hlen (by show ¬ 0 = nbW u + 1; omega)
      | cons q2' hr2 =>
        have hlen2 : hr2.length + 1 = nbW (k1 :: u) := hlen
        dsimp only [x_int, x_lng, x_ild, x_lld, x_ald, x_ist, x_ast, x_lst, x_inc, x_ii, x_id, x_i, x_ll, x_ld, x_l, x_cmp, x_i2l, x_l2i, x_if, x_ic, x_dup, x_pop, x_dup2, x_gI, x_gL, x_gR, x_g1, x_g0, x_gP, x_pI, x_pZ, x_pL, x_pP, x_al, x_as, x_all, x_asl, x_alr, x_len, x_cpy, x_m2, x_m1, x_m2l, x_m1l, x_call, x_cv, x_ri, x_rz, x_rl, x_rv, zg, zset, zbef, zlong, zcat, cond_true, cond_false, List.take, List.drop, rv1, rv2, rv3, rv4, rv5, rv6, rv7, sm0, sm1, bl0, bl1, bl2, bl3, bl4, bl5, bl6, bl7, bl8, List.nil_append, List.cons_append, List.length_cons, List.length_nil, Nat.reduceBEq, Nat.reduceAdd, Nat.reduceSub, ta, tb, tn0, tn1, tn2, tn3, tn4, tn5, tn6, tn7, tn8, tn9, tn10, tn11, tn12, bX12_bind_58]
        refine p_dropHeld (m := hr2.length + 1) (v := nI q) (by omega) h42 (by rw [f1 _ _ _ (by omega)]; exact x4.1) (fun I2 f2 s2 => ?_)
        dsimp only [x_int, x_lng, x_ild, x_lld, x_ald, x_ist, x_ast, x_lst, x_inc, x_ii, x_id, x_i, x_ll, x_ld, x_l, x_cmp, x_i2l, x_l2i, x_if, x_ic, x_dup, x_pop, x_dup2, x_gI, x_gL, x_gR, x_g1, x_g0, x_gP, x_pI, x_pZ, x_pL, x_pP, x_al, x_as, x_all, x_asl, x_alr, x_len, x_cpy, x_m2, x_m1, x_m2l, x_m1l, x_call, x_cv, x_ri, x_rz, x_rl, x_rv, zg, zset, zbef, zlong, zcat, cond_true, cond_false, List.take, List.drop, rv1, rv2, rv3, rv4, rv5, rv6, rv7, sm0, sm1, bl0, bl1, bl2, bl3, bl4, bl5, bl6, bl7, bl8, List.nil_append, List.cons_append, List.length_cons, List.length_nil, Nat.reduceBEq, Nat.reduceAdd, Nat.reduceSub, ta, tb, tn0, tn1, tn2, tn3, tn4, tn5, tn6, tn7, tn8, tn9, tn10, tn11, tn12, bX12_bind_58]
        refine p_dropHeld (m := hr2.length) (v := nI q2') (by omega) s2 (by rw [f2 _ _ _ (by omega), f1 _ _ _ (by omega)]; exact x4.2.1) (fun I3 f3 s3 => ?_)
        dsimp only [x_int, x_lng, x_ild, x_lld, x_ald, x_ist, x_ast, x_lst, x_inc, x_ii, x_id, x_i, x_ll, x_ld, x_l, x_cmp, x_i2l, x_l2i, x_if, x_ic, x_dup, x_pop, x_dup2, x_gI, x_gL, x_gR, x_g1, x_g0, x_gP, x_pI, x_pZ, x_pL, x_pP, x_al, x_as, x_all, x_asl, x_alr, x_len, x_cpy, x_m2, x_m1, x_m2l, x_m1l, x_call, x_cv, x_ri, x_rz, x_rl, x_rv, zg, zset, zbef, zlong, zcat, cond_true, cond_false, List.take, List.drop, rv1, rv2, rv3, rv4, rv5, rv6, rv7, sm0, sm1, bl0, bl1, bl2, bl3, bl4, bl5, bl6, bl7, bl8, List.nil_append, List.cons_append, List.length_cons, List.length_nil, Nat.reduceBEq, Nat.reduceAdd, Nat.reduceSub, ta, tb, tn0, tn1, tn2, tn3, tn4, tn5, tn6, tn7, tn8, tn9, tn10, tn11, tn12]
        refine p_grown (p := a + cu.length) (m := hr2.length) p64 (by omega) (by rw [f3 _ _ _ (by decide), f2 _ _ _ (by decide)]; exact h19) s3 (fun I4 f4 v1 v2 v3 v4 v5 v6 => ?_)
        dsimp only [x_int, x_lng, x_ild, x_lld, x_ald, x_ist, x_ast, x_lst, x_inc, x_ii, x_id, x_i, x_ll, x_ld, x_l, x_cmp, x_i2l, x_l2i, x_if, x_ic, x_dup, x_pop, x_dup2, x_gI, x_gL, x_gR, x_g1, x_g0, x_gP, x_pI, x_pZ, x_pL, x_pP, x_al, x_as, x_all, x_asl, x_alr, x_len, x_cpy, x_m2, x_m1, x_m2l, x_m1l, x_call, x_cv, x_ri, x_rz, x_rl, x_rv, zg, zset, zbef, zlong, zcat, cond_true, cond_false, List.take, List.drop, rv1, rv2, rv3, rv4, rv5, rv6, rv7, sm0, sm1, bl0, bl1, bl2, bl3, bl4, bl5, bl6, bl7, bl8, List.nil_append, List.cons_append, List.length_cons, List.length_nil, Nat.reduceBEq, Nat.reduceAdd, Nat.reduceSub, ta, tb, tn0, tn1, tn2, tn3, tn4, tn5, tn6, tn7, tn8, tn9, tn10, tn11, tn12]
        have fa : ∀ b c d, ¬ (c = 0 ∧ bK a b d) → I4 b c d = I' b c d := fun b c d w => by
          rw [f4 b c d (fun v => w ⟨v.1, by unfold bK; omega⟩), f3 b c d (fun v => w ⟨v.1, by unfold bK; omega⟩), f2 b c d (fun v => w ⟨v.1, by unfold bK; omega⟩), f1 b c d (fun v => w ⟨v.2.1, by unfold bK; omega⟩)]
        refine fin I4 hr2 0 0 ⟨_, ?_, ?_, rfl⟩ fa (fun b c u1 u2 u3 => ?_) ?_ v5 v6 v4 ?_ _ _ _
        · exact hR.q x4.2.2 (fun c hc => by rw [f4 _ _ _ (by omega), f3 _ _ _ (by omega), f2 _ _ _ (by omega), f1 _ _ _ (by omega)])
        · exact Or.inr (Or.inr (Or.inr ⟨ng1, q, q2', hr2, nI (kc k1), rfl, by rw [ng2]; exact kns_kc isb, v1, v2, v3, rfl⟩))
        · rw [f4 _ _ _ (by omega), f3 _ _ _ (by omega), f2 _ _ _ (by omega), f1 _ _ _ (by omega)]
        · rw [f4 _ _ _ (by omega), f3 _ _ _ (by decide), f2 _ _ _ (by decide)]; exact y1
        · omega
