theorem setL_13 {T : aT} {w cnt : Nat} {cs : List Int32} : (setL T w cs cnt).2.1 13 0 = nI cnt := by
  unfold setL
  dsimp only
  rw [if_pos ⟨rfl, rfl⟩]
theorem setL_w {T : aT} {w cnt : Nat} {cs : List Int32} : (setL T w cs cnt).2.2 w = cs := by
  unfold setL
  dsimp only
  rw [if_pos rfl]
abbrev rdK (a b c : Nat) : Prop := b = 0 ∧ ((a = 7 ∧ (c = 7 ∨ c = 9 ∨ c = 10 ∨ c = 11)) ∨ (a = 5 ∧ (c = 8 ∨ c = 9)))
-- a sum's memory in the class
theorem CQ_law {I I' : zI} {d w : Nat} {Q : aQ} {cs cs' : List Int32} {cnt cnt' : Nat} (hw : w < 3) (h : CQ I d (setL Q.1 w cs cnt, Q.2)) (e : ∀ a b c, ¬ (a = 9 ∧ b = d ∧ c = 11) → ¬ ((a = 2 ∨ a = 16) ∧ b = 3 * d + w) → ¬ (b = 0 ∧ (a = 5 ∨ a = 7 ∨ a = 23 ∨ a = 24)) → I' a b c = I a b c) (h1 : I' 9 d 11 = nI cnt') (h2 : cs'.length ≤ 64) (h3 : I' 2 (3 * d + w) 2 = nI cs'.length) (h4 : ∀ i, i < cs'.length → I' 16 (3 * d + w) i = cs'.getD i 0) : CQ I' d (setL Q.1 w cs' cnt', Q.2) := by
  obtain ⟨⟨p1, p2, p3, p4, p5, p6, p7, p8⟩, g2, g3, g4, g5, g6⟩ := h
  have F : ∀ a x c cn, ¬ a = 13 → (setL Q.1 w c cn).2.1 a x = Q.1.2.1 a x := fun a x c cn z => if_neg (fun y => z y.1)
  refine ⟨⟨p1, ?_, p3, fun x hx => ?_, fun x hx => ?_, fun x hx => ?_, ⟨?_, ?_, ?_⟩, fun x hx => ?_⟩, fun x hx q hq => ?_, ?_, ?_, ?_, ?_⟩
  · rw [e _ _ _ (by omega) (by omega) (by omega), e _ _ _ (by omega) (by omega) (by omega), e _ _ _ (by omega) (by omega) (by omega)]; exact p2
  · obtain ⟨u1, u2, u3, u4⟩ := p4 x hx
    rw [F 0 x _ _ (by omega)] at u1 ⊢
    rw [F 1 x _ _ (by omega)] at u2 ⊢
    rw [F 2 x _ _ (by omega)] at u3 ⊢
    rw [e _ _ _ (by omega) (by omega) (by omega), e _ _ _ (by omega) (by omega) (by omega), e _ _ _ (by omega) (by omega) (by omega)]
    refine ⟨u1, u2, u3, fun q hq => ?_⟩
    have u4 := u4 q hq
    rw [F 3 _ _ _ (by omega)] at u4 ⊢
    rw [e _ _ _ (by omega) (by omega) (by omega)]; exact u4
  · have u := p5 x hx
    rw [F 4 x _ _ (by omega), F 5 x _ _ (by omega), F 6 x _ _ (by omega), F 7 x _ _ (by omega)] at u ⊢
    rw [e _ _ _ (by omega) (by omega) (by omega), e _ _ _ (by omega) (by omega) (by omega), e _ _ _ (by omega) (by omega) (by omega), e _ _ _ (by omega) (by omega) (by omega)]; exact u
  · have u := p6 x hx
    rw [F 8 x _ _ (by omega), F 9 x _ _ (by omega), F 10 x _ _ (by omega)] at u ⊢
    rw [e _ _ _ (by omega) (by omega) (by omega), e _ _ _ (by omega) (by omega) (by omega), e _ _ _ (by omega) (by omega) (by omega)]; exact u
  · have u := p7.1
    rw [F 11 0 _ _ (by omega)] at u ⊢
    rw [e _ _ _ (by omega) (by omega) (by omega)]; exact u
  · have u := p7.2.1
    rw [F 12 0 _ _ (by omega)] at u ⊢
    rw [e _ _ _ (by omega) (by omega) (by omega)]; exact u
  · rw [h1]; exact setL_13.symm
  · by_cases z : x = w
    · subst z
      rw [show (setL Q.1 x cs' cnt').2.2 x = cs' from if_pos rfl]
      exact ⟨h2, h3, h4⟩
    · have u := p8 x hx
      rw [show (setL Q.1 w cs cnt).2.2 x = Q.1.2.2 x from if_neg z] at u
      rw [show (setL Q.1 w cs' cnt').2.2 x = Q.1.2.2 x from if_neg z, e _ _ _ (by omega) (by omega) (by omega)]
      exact ⟨u.1, u.2.1, fun q hq => by rw [e _ _ _ (by omega) (by omega) (by omega)]; exact u.2.2 q hq⟩
  · have u := g2 x hx q hq
    rw [e _ _ _ (by omega) (by omega) (by omega), u]
    unfold gapv
    exact apn_congr (fun k hk => by rw [F 3 _ _ _ (by omega), F 3 _ _ _ (by omega)])
  · rw [e _ _ _ (by omega) (by omega) (by omega)]; exact g3
  · rw [e _ _ _ (by omega) (by omega) (by omega)]; exact g4
  · rw [e _ _ _ (by omega) (by omega) (by omega)]; exact g5
  · rw [e _ _ _ (by omega) (by omega) (by omega)]; exact g6
/-- the stack of signs -/
def sgR (I : zI) (ws : List Nat) : Prop := I 5 0 5 = nI ws.length ∧ ∀ j, j < ws.length → I 23 0 j = nI (ws.getD (ws.length - 1 - j) 0)
theorem sgR_top {I : zI} {k : Nat} {ws : List Nat} (h : sgR I (k :: ws)) : I 23 0 ws.length = nI k ∧ ∀ J : zI, J 5 0 5 = nI ws.length → (∀ c, J 23 0 c = I 23 0 c) → sgR J ws := by
  obtain ⟨h1, h2⟩ := h
  refine ⟨?_, fun J e1 e2 => ⟨e1, fun j hj => ?_⟩⟩
  · have := h2 ws.length (by simp)
    simpa using this
  · have := h2 j (by simp; omega)
    rw [e2, this]
    have : (k :: ws).length - 1 - j = (ws.length - 1 - j) + 1 := by simp; omega
    rw [this]; rfl
theorem sgR_push {I J : zI} {k : Nat} {ws : List Nat} (h : sgR I ws) (e1 : J 5 0 5 = nI (ws.length + 1)) (e2 : J 23 0 ws.length = nI k) (e3 : ∀ c, ¬ c = ws.length → J 23 0 c = I 23 0 c) : sgR J (k :: ws) := by
  refine ⟨e1, fun j hj => ?_⟩
  rw [List.length_cons] at hj ⊢
  by_cases z : j = ws.length
  · subst z
    rw [e2, show ws.length + 1 - 1 - ws.length = 0 by omega]; rfl
  · rw [e3 j z, h.2 j (by omega), show ws.length + 1 - 1 - j = (ws.length - 1 - j) + 1 by omega]; rfl
theorem sgR.q {I J : zI} {ws : List Nat} (h : sgR I ws) (e1 : J 5 0 5 = I 5 0 5) (e2 : ∀ c, J 23 0 c = I 23 0 c) : sgR J ws := ⟨e1.trans h.1, fun j hj => by rw [e2]; exact h.2 j hj⟩
def icB (I : zI) : List Nat → Prop
  | [] => True
  | k :: ws => (k = 22 → I 24 0 (opn ws) = bI (cmT ws)) ∧ icB I ws
theorem icB.q {I J : zI} {o : Nat} : ∀ {ws : List Nat}, opn ws ≤ o → icB I ws → (∀ c, c < o → J 24 0 c = I 24 0 c) → icB J ws := by
  intro ws
  induction ws with
  | nil => intro _ _ _; trivial
  | cons k ws ih =>
    intro h1 h2 e
    have h1 : opn ws + (if k = 22 then 1 else 0) ≤ o := h1
    refine ⟨fun z => ?_, ih (by omega) h2.2 e⟩
    rw [if_pos z] at h1
    rw [e _ (by omega)]; exact h2.1 z
theorem icB_pop {I : zI} {r : Nat} : ∀ {ws : List Nat}, icB I ws → icB I (popC r ws).2 := by
  intro ws
  induction ws with
  | nil => intro h; exact h
  | cons k ws ih =>
    intro h
    unfold popC
    by_cases c : r ≤ rkC k
    · rw [if_pos c]; exact ih h.2
    · rw [if_neg c]; exact h
-- what is counted, laid, told
def ckA (cnt : Nat) : aR → aR
  | .inl i => if cnt = 64 then .inr (2, i) else .inl i
  | .inr x => .inr x
theorem p_countKnot {K : zQ} {I : zI} {L : zJ} {P : zP} {B : Nat → Nat} {n m d w cnt : Nat} {st : aR} {Q : aQ} {cs : List Int32} (hP : P 5 0 3 = d) (d2 : d < 2) (hc : cnt ≤ 64) (hQ : ∀ i, st = .inl i → CQ I d (setL Q.1 w cs cnt, Q.2)) (h : stC B n m st I) (hK : ∀ I' : zI, (∀ a b c, ¬ (a = 9 ∧ b = d ∧ c = 11) → ¬ rdK a b c → I' a b c = I a b c) → stC B n m (ckA cnt st) I' → (∀ i, ckA cnt st = .inl i → I' 9 d 11 = nI (cnt + 1) ∧ cnt < 64) → K [] (I', L, P)) : mX5_countKnot K [rdR] (I, L, P) := by
  have e17 : ∀ (J : zI) (s : aR), (∀ a b c, ¬ rdK a b c → J a b c = I a b c) → stC B n m s J → s = ckA cnt st → (∀ i, s = .inl i → I 9 d 11 = nI cnt ∧ cnt < 64) → bX5_countKnot_17 K [some rdR] [] (J, L, P) := fun J s q1 q2 q3 q4 => by
    subst q3
    unfold bX5_countKnot_17
    dsimp only [x_int, x_lng, x_ild, x_lld, x_ald, x_ist, x_ast, x_lst, x_inc, x_ii, x_id, x_i, x_ll, x_ld, x_l, x_cmp, x_i2l, x_l2i, x_if, x_ic, x_dup, x_pop, x_dup2, x_gI, x_gL, x_gR, x_g1, x_g0, x_gP, x_pI, x_pZ, x_pL, x_pP, x_al, x_as, x_all, x_asl, x_alr, x_len, x_cpy, x_m2, x_m1, x_m2l, x_m1l, x_call, x_cv, x_ri, x_rz, x_rl, x_rv, zg, zset, zbef, zlong, zcat, cond_true, cond_false, List.take, List.drop, rv1, rv2, rv3, rv4, rv5, rv6, rv7, sm0, sm1, bl0, bl1, bl2, bl3, bl4, bl5, bl6, bl7, bl8, List.nil_append, List.cons_append, List.length_cons, List.length_nil, Nat.reduceBEq, Nat.reduceAdd, Nat.reduceSub, ta, tb, tn0, tn1, tn2, tn3, tn4, tn5, tn6, tn7, tn8, tn9, tn10, tn11, tn12, bX5_countKnot_37]
    rcases q2.ft with ⟨t0, j, ej⟩ | ⟨t0, x, ex⟩
    · obtain ⟨u1, u2⟩ := q4 j ej
      refine ⟨fun _ => ?_, fun y => absurd t0 y⟩
      rw [hP]
      refine ⟨d2, ?_⟩
      rw [q1 9 d _ (by unfold rdK; omega), u1, n_succ]
      obtain ⟨J1, e1, x1, k1⟩ := zsI_ex J L P 9 d 11 (nI (cnt + 1))
      rw [e1]
      exact hK J1 (fun a b c w1 w2 => (k1 a b c w1).trans (q1 a b c w2)) (q2.q (fun c => k1 _ _ _ (by omega)) (k1 _ _ _ (by omega)) (k1 _ _ _ (by omega))) (fun i _ => ⟨x1, u2⟩)
    · exact ⟨fun y => absurd y t0, fun _ => hK J (fun a b c w1 w2 => q1 a b c w2) q2 (fun i ei => by rw [ex] at ei; cases ei)⟩
  show bX5_countKnot_0 K [some (.inr (.inr (5,0)))] [] (I, L, P)
  unfold bX5_countKnot_0
  dsimp only [x_int, x_lng, x_ild, x_lld, x_ald, x_ist, x_ast, x_lst, x_inc, x_ii, x_id, x_i, x_ll, x_ld, x_l, x_cmp, x_i2l, x_l2i, x_if, x_ic, x_dup, x_pop, x_dup2, x_gI, x_gL, x_gR, x_g1, x_g0, x_gP, x_pI, x_pZ, x_pL, x_pP, x_al, x_as, x_all, x_asl, x_alr, x_len, x_cpy, x_m2, x_m1, x_m2l, x_m1l, x_call, x_cv, x_ri, x_rz, x_rl, x_rv, zg, zset, zbef, zlong, zcat, cond_true, cond_false, List.take, List.drop, rv1, rv2, rv3, rv4, rv5, rv6, rv7, sm0, sm1, bl0, bl1, bl2, bl3, bl4, bl5, bl6, bl7, bl8, List.nil_append, List.cons_append, List.length_cons, List.length_nil, Nat.reduceBEq, Nat.reduceAdd, Nat.reduceSub, ta, tb, tn0, tn1, tn2, tn3, tn4, tn5, tn6, tn7, tn8, tn9, tn10, tn11, tn12]
  rw [hP]
  cases st with
  | inl i =>
    have hQ := hQ i rfl
    have kn : I 9 d 11 = nI cnt := hQ.1.2.2.2.2.2.2.1.2.2.trans setL_13
    rw [kn]
    refine ⟨d2, fun z => e17 I (.inl i) (fun _ _ _ _ => rfl) h ?_ (fun _ _ => ⟨kn, ?_⟩), fun z => p_fail (e := 2) (by omega) h (fun I1 f1 c1 => e17 I1 _ (fun a b c w => ?_) c1 ?_ (fun j ej => by cases ej))⟩
    · have z : nI cnt < nI 64 := z
      rw [n_lt (by omega) (by omega)] at z
      exact (if_neg (by omega)).symm
    · have z : nI cnt < nI 64 := z
      rw [n_lt (by omega) (by omega)] at z
      exact z
    · exact f1 a b c w
    · have z : ¬ nI cnt < nI 64 := z
      rw [n_lt (by omega) (by omega)] at z
      exact (if_pos (show cnt = 64 by omega)).symm
  | inr x =>
    refine ⟨d2, fun _ => e17 I (.inr x) (fun _ _ _ _ => rfl) h rfl (fun j ej => by cases ej), fun _ => p_fail (e := 2) (by omega) h (fun I1 f1 c1 => e17 I1 _ (fun a b c w => ?_) c1 rfl (fun j ej => by cases ej))⟩
    exact f1 a b c w
theorem p_push {K : zQ} {I : zI} {L : zJ} {P : zP} {B : Nat → Nat} {n m k h0 : Nat} {st : aR} (hh : I 5 0 5 = nI h0) (h72 : h0 ≤ 72) (hp : ∀ i, st = .inl i → h0 < 72) (h : stC B n m st I) (hK : ∀ I' : zI, (∀ a b c, ¬ (a = 23 ∧ b = 0 ∧ c = h0) → ¬ (a = 5 ∧ b = 0 ∧ c = 5) → I' a b c = I a b c) → (∀ i, st = .inl i → I' 5 0 5 = nI (h0 + 1) ∧ I' 23 0 h0 = nI k) → ((∃ x, st = .inr x) → I' = I) → K [] (I', L, P)) : mX5_push K [rdR, .inl (nI k)] (I, L, P) := by
  show bX5_push_0 K [some (.inr (.inr (5,0))), some (.inl (nI k))] [] (I, L, P)
  unfold bX5_push_0
  dsimp only [x_int, x_lng, x_ild, x_lld, x_ald, x_ist, x_ast, x_lst, x_inc, x_ii, x_id, x_i, x_ll, x_ld, x_l, x_cmp, x_i2l, x_l2i, x_if, x_ic, x_dup, x_pop, x_dup2, x_gI, x_gL, x_gR, x_g1, x_g0, x_gP, x_pI, x_pZ, x_pL, x_pP, x_al, x_as, x_all, x_asl, x_alr, x_len, x_cpy, x_m2, x_m1, x_m2l, x_m1l, x_call, x_cv, x_ri, x_rz, x_rl, x_rv, zg, zset, zbef, zlong, zcat, cond_true, cond_false, List.take, List.drop, rv1, rv2, rv3, rv4, rv5, rv6, rv7, sm0, sm1, bl0, bl1, bl2, bl3, bl4, bl5, bl6, bl7, bl8, List.nil_append, List.cons_append, List.length_cons, List.length_nil, Nat.reduceBEq, Nat.reduceAdd, Nat.reduceSub, ta, tb, tn0, tn1, tn2, tn3, tn4, tn5, tn6, tn7, tn8, tn9, tn10, tn11, tn12, zk_23, zl_23, bX5_push_39]
  rcases h.ft with ⟨t0, j, ej⟩ | ⟨t0, x, ex⟩
  · have lt := hp j ej
    refine ⟨fun _ => ?_, fun y => absurd t0 y⟩
    rw [hh]
    refine ⟨fun z => ?_, fun z => ⟨n_zin lt (by decide), ?_⟩⟩
    · have z : nI 72 ≤ nI h0 := z
      rw [n_le (by omega) (by omega)] at z
      omega
    rw [n_cl (n := h0) (by omega)]
    obtain ⟨J1, e1, x1, k1⟩ := zsI_ex I L P 23 0 h0 (nI k)
    rw [e1]
    dsimp only
    rw [k1 5 0 _ (by omega), hh, n_succ]
    obtain ⟨J2, e2, x2, k2⟩ := zsI_ex J1 L P 5 0 5 (nI (h0 + 1))
    rw [e2]
    exact hK J2 (fun a b c w1 w2 => (k2 a b c w2).trans (k1 a b c w1)) (fun i _ => ⟨x2, (k2 _ _ _ (by omega)).trans x1⟩) (fun ⟨x, ex⟩ => by rw [ej] at ex; cases ex)
  · exact ⟨fun y => absurd y t0, fun _ => hK I (fun _ _ _ _ _ => rfl) (fun i ei => by rw [ex] at ei; cases ei) (fun _ => rfl)⟩
theorem p_emit {K : zQ} {I : zI} {L : zJ} {P : zP} {B : Nat → Nat} {n m q l : Nat} {c : Int32} {st : aR} (hP : ∀ i, st = .inl i → P 5 0 4 = q ∧ q < 6 ∧ I 2 q 2 = nI l ∧ l < 64) (h : stC B n m st I) (hK : ∀ I' : zI, (∀ a b x, ¬ (a = 16 ∧ b = q ∧ x = l) → ¬ (a = 2 ∧ b = q ∧ x = 2) → I' a b x = I a b x) → (∀ i, st = .inl i → I' 2 q 2 = nI (l + 1) ∧ I' 16 q l = c) → ((∃ x, st = .inr x) → I' = I) → K [] (I', L, P)) : mX5_emit K [rdR, .inl c] (I, L, P) := by
  show bX5_emit_0 K [some (.inr (.inr (5,0))), some (.inl c)] [] (I, L, P)
  unfold bX5_emit_0
  dsimp only [x_int, x_lng, x_ild, x_lld, x_ald, x_ist, x_ast, x_lst, x_inc, x_ii, x_id, x_i, x_ll, x_ld, x_l, x_cmp, x_i2l, x_l2i, x_if, x_ic, x_dup, x_pop, x_dup2, x_gI, x_gL, x_gR, x_g1, x_g0, x_gP, x_pI, x_pZ, x_pL, x_pP, x_al, x_as, x_all, x_asl, x_alr, x_len, x_cpy, x_m2, x_m1, x_m2l, x_m1l, x_call, x_cv, x_ri, x_rz, x_rl, x_rv, zg, zset, zbef, zlong, zcat, cond_true, cond_false, List.take, List.drop, rv1, rv2, rv3, rv4, rv5, rv6, rv7, sm0, sm1, bl0, bl1, bl2, bl3, bl4, bl5, bl6, bl7, bl8, List.nil_append, List.cons_append, List.length_cons, List.length_nil, Nat.reduceBEq, Nat.reduceAdd, Nat.reduceSub, ta, tb, tn0, tn1, tn2, tn3, tn4, tn5, tn6, tn7, tn8, tn9, tn10, tn11, tn12, zk_16, zl_16, bX5_emit_54]
  rcases h.ft with ⟨t0, j, ej⟩ | ⟨t0, x, ex⟩
  · obtain ⟨g1, g2, g3, g4⟩ := hP j ej
    refine ⟨fun _ => ?_, fun y => absurd t0 y⟩
    rw [g1, g3]
    refine ⟨g2, g2, fun z => ?_, fun z => ⟨g2, g2, n_zin g4 (by decide), ?_⟩⟩
    · have z : nI 64 ≤ nI l := z
      rw [n_le (by omega) (by omega)] at z
      omega
    rw [n_cl (n := l) (by omega)]
    obtain ⟨J1, e1, x1, k1⟩ := zsI_ex I L P 16 q l c
    rw [e1]
    dsimp only
    rw [g1, k1 2 q _ (by omega), g3, n_succ]
    obtain ⟨J2, e2, x2, k2⟩ := zsI_ex J1 L P 2 q 2 (nI (l + 1))
    rw [e2]
    exact ⟨g2, hK J2 (fun a b c w1 w2 => (k2 a b c w2).trans (k1 a b c w1)) (fun i _ => ⟨x2, (k2 _ _ _ (by omega)).trans x1⟩) (fun ⟨x, ex⟩ => by rw [ej] at ex; cases ex)⟩
  · exact ⟨fun y => absurd y t0, fun _ => hK I (fun _ _ _ _ _ => rfl) (fun i ei => by rw [ex] at ei; cases ei) (fun _ => rfl)⟩
/-- with a fault only the height falls -/
theorem p_relF {K : zQ} {I : zI} {L : zJ} {P : zP} {B : Nat → Nat} {n m h0 : Nat} {r : Int32} {x : Nat × Nat} (hh : I 5 0 5 = nI h0) (h72 : h0 ≤ 72) (h : stC B n m (.inr x) I) (hK : ∀ (I' : zI) (h1 : Nat), h1 ≤ h0 → (∀ a b c, ¬ (a = 5 ∧ b = 0 ∧ c = 5) → I' a b c = I a b c) → I' 5 0 5 = nI h1 → K [] (I', L, P)) : mX5_release K [rdR, .inl r] (I, L, P) := by
  show bX5_release_0 K [some rdR, some (.inl r)] [] (I, L, P)
  refine zmea (fun k Z M => ∃ I' : zI, Z = [some rdR, some (.inl r)] ∧ M = (I', L, P) ∧ k ≤ h0 ∧ (∀ a b c, ¬ (a = 5 ∧ b = 0 ∧ c = 5) → I' a b c = I a b c) ∧ I' 5 0 5 = nI k) ?_ h0 ⟨I, rfl, rfl, Nat.le_refl _, fun _ _ _ _ => rfl, hh⟩
  rintro k Z M ⟨I', rfl, rfl, q1, q2, q3⟩ self hself
  have st' : stC B n m (.inr x) I' := h.q (fun c => q2 _ _ _ (by omega)) (q2 _ _ _ (by decide)) (q2 _ _ _ (by decide))
  dsimp only [x_int, x_lng, x_ild, x_lld, x_ald, x_ist, x_ast, x_lst, x_inc, x_ii, x_id, x_i, x_ll, x_ld, x_l, x_cmp, x_i2l, x_l2i, x_if, x_ic, x_dup, x_pop, x_dup2, x_gI, x_gL, x_gR, x_g1, x_g0, x_gP, x_pI, x_pZ, x_pL, x_pP, x_al, x_as, x_all, x_asl, x_alr, x_len, x_cpy, x_m2, x_m1, x_m2l, x_m1l, x_call, x_cv, x_ri, x_rz, x_rl, x_rv, zg, zset, zbef, zlong, zcat, cond_true, cond_false, List.take, List.drop, rv1, rv2, rv3, rv4, rv5, rv6, rv7, sm0, sm1, bl0, bl1, bl2, bl3, bl4, bl5, bl6, bl7, bl8, List.nil_append, List.cons_append, List.length_cons, List.length_nil, Nat.reduceBEq, Nat.reduceAdd, Nat.reduceSub, ta, tb, tn0, tn1, tn2, tn3, tn4, tn5, tn6, tn7, tn8, tn9, tn10, tn11, tn12, zk_23, zl_23, bX5_release_52]
  rw [q3]
  refine ⟨fun _ => hK I' k q1 q2 q3, fun z => ?_⟩
  cases k with
  | zero => exact absurd (Int32.le_refl _) z
  | succ k =>
    rw [n_pred, n_cl (n := k) (by omega)]
    refine ⟨n_zin (by omega) (by decide), p_rankAny (fun v => ?_)⟩
    dsimp only [x_int, x_lng, x_ild, x_lld, x_ald, x_ist, x_ast, x_lst, x_inc, x_ii, x_id, x_i, x_ll, x_ld, x_l, x_cmp, x_i2l, x_l2i, x_if, x_ic, x_dup, x_pop, x_dup2, x_gI, x_gL, x_gR, x_g1, x_g0, x_gP, x_pI, x_pZ, x_pL, x_pP, x_al, x_as, x_all, x_asl, x_alr, x_len, x_cpy, x_m2, x_m1, x_m2l, x_m1l, x_call, x_cv, x_ri, x_rz, x_rl, x_rv, zg, zset, zbef, zlong, zcat, cond_true, cond_false, List.take, List.drop, rv1, rv2, rv3, rv4, rv5, rv6, rv7, sm0, sm1, bl0, bl1, bl2, bl3, bl4, bl5, bl6, bl7, bl8, List.nil_append, List.cons_append, List.length_cons, List.length_nil, Nat.reduceBEq, Nat.reduceAdd, Nat.reduceSub, ta, tb, tn0, tn1, tn2, tn3, tn4, tn5, tn6, tn7, tn8, tn9, tn10, tn11, tn12, zk_23, zl_23, bX5_release_52]
    refine ⟨fun _ => hK I' (k + 1) q1 q2 q3, fun _ => ?_⟩
    rw [q3, n_pred]
    obtain ⟨J1, e1, x1, k1⟩ := zsI_ex I' L P 5 0 5 (nI k)
    rw [e1]
    dsimp only
    rw [x1]
    have st1 : stC B n m (.inr x) J1 := st'.q (fun c => k1 _ _ _ (by omega)) (k1 _ _ _ (by decide)) (k1 _ _ _ (by decide))
    refine ⟨n_zin (by omega) (by decide), p_emit (q := 0) (l := 0) (fun i ei => by cases ei) st1 (fun I2 _ _ e2 => ?_)⟩
    rw [e2 ⟨x, rfl⟩]
    exact hself k _ _ (by omega) ⟨J1, rfl, rfl, by omega, fun a b c w => (k1 a b c w).trans (q2 a b c w), x1⟩
/-- all well: signs come behind their operands -/
theorem p_release {K : zQ} {I : zI} {L : zJ} {P : zP} {B : Nat → Nat} {n m i q r : Nat} {cs : List Int32} {ws : List Nat} (hq : P 5 0 4 = q ∧ q < 6) (hl : I 2 q 2 = nI cs.length) (hc : ∀ j, j < cs.length → I 16 q j = cs.getD j 0) (hs : sgR I ws) (h72 : ws.length ≤ 72) (hn : cs.length + (popC r ws).1.length ≤ 64) (hk : ∀ x, x ∈ ws → x ≤ 35) (hr : r ≤ 6) (h : stC B n m (.inl i) I) (hK : ∀ I' : zI, (∀ a b c, ¬ (a = 5 ∧ b = 0 ∧ c = 5) → ¬ ((a = 16 ∨ a = 2) ∧ b = q) → I' a b c = I a b c) → sgR I' (popC r ws).2 → I' 2 q 2 = nI (cs ++ (popC r ws).1).length → (∀ j, j < (cs ++ (popC r ws).1).length → I' 16 q j = (cs ++ (popC r ws).1).getD j 0) → K [] (I', L, P)) : mX5_release K [rdR, .inl (nI r)] (I, L, P) := by
  show bX5_release_0 K [some rdR, some (.inl (nI r))] [] (I, L, P)
  refine zmea (fun k Z M => ∃ (I' : zI) (u : List Nat) (cu : List Int32), Z = [some rdR, some (.inl (nI r))] ∧ M = (I', L, P) ∧ k = u.length ∧ u.length ≤ 72 ∧ (∀ x, x ∈ u → x ≤ 35) ∧ (∀ a b c, ¬ (a = 5 ∧ b = 0 ∧ c = 5) → ¬ ((a = 16 ∨ a = 2) ∧ b = q) → I' a b c = I a b c) ∧ sgR I' u ∧ I' 2 q 2 = nI cu.length ∧ (∀ j, j < cu.length → I' 16 q j = cu.getD j 0) ∧ cu ++ (popC r u).1 = cs ++ (popC r ws).1 ∧ (popC r u).2 = (popC r ws).2) ?_ ws.length ⟨I, ws, cs, rfl, rfl, rfl, h72, hk, fun _ _ _ _ _ => rfl, hs, hl, hc, rfl, rfl⟩
  rintro k Z M ⟨I', u, cu, rfl, rfl, q1, q2, q2k, q3, q4, q5, q6, q7, q8⟩ self hself
  have st' : stC B n m (.inl i) I' := h.q (fun c => q3 _ _ _ (by omega) (by omega)) (q3 _ _ _ (by decide) (by omega)) (q3 _ _ _ (by decide) (by omega))
  have stop : (popC r u).1 = [] → (popC r u).2 = u → K [] (I', L, P) := fun z1 z2 => by
    rw [z1, List.append_nil] at q7
    rw [z2] at q8
    rw [← q7, ← q8] at hK
    exact hK I' q3 q4 q5 q6
  dsimp only [x_int, x_lng, x_ild, x_lld, x_ald, x_ist, x_ast, x_lst, x_inc, x_ii, x_id, x_i, x_ll, x_ld, x_l, x_cmp, x_i2l, x_l2i, x_if, x_ic, x_dup, x_pop, x_dup2, x_gI, x_gL, x_gR, x_g1, x_g0, x_gP, x_pI, x_pZ, x_pL, x_pP, x_al, x_as, x_all, x_asl, x_alr, x_len, x_cpy, x_m2, x_m1, x_m2l, x_m1l, x_call, x_cv, x_ri, x_rz, x_rl, x_rv, zg, zset, zbef, zlong, zcat, cond_true, cond_false, List.take, List.drop, rv1, rv2, rv3, rv4, rv5, rv6, rv7, sm0, sm1, bl0, bl1, bl2, bl3, bl4, bl5, bl6, bl7, bl8, List.nil_append, List.cons_append, List.length_cons, List.length_nil, Nat.reduceBEq, Nat.reduceAdd, Nat.reduceSub, ta, tb, tn0, tn1, tn2, tn3, tn4, tn5, tn6, tn7, tn8, tn9, tn10, tn11, tn12, zk_23, zl_23, bX5_release_52]
  rw [q4.1]
  cases u with
  | nil => exact ⟨fun _ => stop rfl rfl, fun z => absurd (Int32.le_refl _) z⟩
  | cons a u =>
    obtain ⟨t1, t2⟩ := sgR_top q4
    have ul : u.length + 1 ≤ 72 := q2
    have a35 := q2k a (List.mem_cons_self ..)
    rw [List.length_cons, n_pred, n_cl (n := u.length) (by omega), t1]
    refine ⟨fun z => ?_, fun _ => ⟨n_zin (by omega) (by decide), p_rankOf a35 ?_⟩⟩
    · have z : nI (u.length + 1) ≤ nI 0 := z
      rw [n_le (by omega) (by omega)] at z
      omega
    have rk6 : rkC a ≤ 6 := by
      unfold rkC
      repeat' split
      all_goals omega
    dsimp only [x_int, x_lng, x_ild, x_lld, x_ald, x_ist, x_ast, x_lst, x_inc, x_ii, x_id, x_i, x_ll, x_ld, x_l, x_cmp, x_i2l, x_l2i, x_if, x_ic, x_dup, x_pop, x_dup2, x_gI, x_gL, x_gR, x_g1, x_g0, x_gP, x_pI, x_pZ, x_pL, x_pP, x_al, x_as, x_all, x_asl, x_alr, x_len, x_cpy, x_m2, x_m1, x_m2l, x_m1l, x_call, x_cv, x_ri, x_rz, x_rl, x_rv, zg, zset, zbef, zlong, zcat, cond_true, cond_false, List.take, List.drop, rv1, rv2, rv3, rv4, rv5, rv6, rv7, sm0, sm1, bl0, bl1, bl2, bl3, bl4, bl5, bl6, bl7, bl8, List.nil_append, List.cons_append, List.length_cons, List.length_nil, Nat.reduceBEq, Nat.reduceAdd, Nat.reduceSub, ta, tb, tn0, tn1, tn2, tn3, tn4, tn5, tn6, tn7, tn8, tn9, tn10, tn11, tn12, zk_23, zl_23, bX5_release_52]
    rw [q4.1, List.length_cons, n_pred]
    by_cases c : r ≤ rkC a
    · have p1 : (popC r (a :: u)).1 = -(nI a) :: (popC r u).1 := by rw [show popC r (a :: u) = (-(nI a) :: (popC r u).1, (popC r u).2) from if_pos c]
      have p2 : (popC r (a :: u)).2 = (popC r u).2 := by rw [show popC r (a :: u) = (-(nI a) :: (popC r u).1, (popC r u).2) from if_pos c]
      refine ⟨fun z => ?_, fun _ => ?_⟩
      · have z : nI (rkC a) < nI r := z
        rw [n_lt (by omega) (by omega)] at z
        omega
      obtain ⟨J1, e1, x1, k1⟩ := zsI_ex I' L P 5 0 5 (nI u.length)
      rw [e1]
      dsimp only
      rw [x1, n_cl (n := u.length) (by omega), k1 23 0 _ (by omega), t1]
      have cl : cu.length < 64 := by
        have := congrArg List.length q7
        rw [List.length_append, List.length_append, p1, List.length_cons] at this
        omega
      have st1 : stC B n m (.inl i) J1 := st'.q (fun c => k1 _ _ _ (by omega)) (k1 _ _ _ (by decide)) (k1 _ _ _ (by decide))
      refine ⟨n_zin (by omega) (by decide), p_emit (q := q) (l := cu.length) (c := -(nI a)) (fun _ _ => ⟨hq.1, hq.2, (k1 _ _ _ (by omega)).trans q5, cl⟩) st1 (fun I2 f2 g2 _ => ?_)⟩
      obtain ⟨w1, w2⟩ := g2 i rfl
      refine hself u.length _ _ (by rw [q1, List.length_cons]; omega) ⟨I2, u, cu ++ [-(nI a)], rfl, rfl, rfl, by omega, fun x hx => q2k x (List.mem_cons_of_mem _ hx), fun a b c y1 y2 => ?_, t2 I2 ((f2 _ _ _ (by omega) (by omega)).trans x1) (fun c => by rw [f2 _ _ _ (by omega) (by omega), k1 _ _ _ (by omega)]), ?_, fun j hj => ?_, ?_, ?_⟩
      · rw [f2 a b c (by omega) (by omega), k1 a b c y1]; exact q3 a b c y1 y2
      · rw [w1, List.length_append]; rfl
      · rw [List.length_append] at hj
        by_cases e : j = cu.length
        · subst e
          rw [w2, List.getD_eq_getElem?_getD, List.getElem?_append_right (by omega), Nat.sub_self]; rfl
        · have hj : j < cu.length + 1 := hj
          rw [f2 _ _ _ (by omega) (by omega), k1 _ _ _ (by omega), q6 j (by omega), List.getD_eq_getElem?_getD, List.getD_eq_getElem?_getD, List.getElem?_append_left (by omega)]
      · rw [← q7, p1, List.append_assoc]; rfl
      · rw [← q8, p2]
    · refine ⟨fun _ => stop (by unfold popC; rw [if_neg c]) (by unfold popC; rw [if_neg c]), fun z => ?_⟩
      have z : ¬ nI (rkC a) < nI r := z
      rw [n_lt (by omega) (by omega)] at z
      omega
