-- what a call changes
def updA (A : aA) (S' : aS) (U' : aU) : aA := (A.1, S', A.2.2.1, U', A.2.2.2.2)
def pN (U : aU) : Nat := min U.1 19
def pD (U : aU) : Nat := U.1 - min U.1 19
def push (U : aU) (S : aS) : aU := (pN U + 1, fun i => if i = pN U then S else U.2 (i + pD U))
theorem CS.upd {I I' : zI} {j : Nat} {T : aT} {S S' : aS} (h : CS I j T S) (e0 : ∀ x, x < T.1 0 → I' 31 j x = S' 0 x) (e2 : ∀ x, x < T.1 1 → I' 35 j x = S' 2 x) (e3 : ∀ x, x < T.1 2 → I' 36 j x = S' 3 x ∧ I' 37 j x = S' 4 x) (e7 : I' 8 j 17 = nI (bsum (S' 7) (T.1 2))) (e : ∀ a c, csK a c = true → ¬ a = 31 → ¬ a = 35 → ¬ a = 36 → ¬ a = 37 → ¬ (a = 8 ∧ c = 17) → I' a j c = I a j c) (hs : ∀ f i, ¬ (f = 0 ∨ f = 2 ∨ f = 3 ∨ f = 4 ∨ f = 7) → S' f i = S f i) : CS I' j T S' := by
  obtain ⟨a1, a2, a3, a4, a5, a6, a7, a8⟩ := h
  have g8 : S' 8 = S 8 := by funext i; exact hs 8 i (by omega)
  refine ⟨fun x hx => ⟨e0 x hx, ?_, ?_⟩, fun x hx => ⟨?_, e2 x hx⟩, fun x hx => ⟨(e3 x hx).1, (e3 x hx).2, ?_, ?_, ?_⟩, ?_, ?_, ?_, ?_, e7⟩
  · rw [e 33 x rfl (by decide) (by decide) (by decide) (by decide) (by simp), hs 1 x (by omega)]; exact (a1 x hx).2.1
  · rw [e 32 x rfl (by decide) (by decide) (by decide) (by decide) (by simp), hs 11 x (by omega)]; exact (a1 x hx).2.2
  · rw [e 34 x rfl (by decide) (by decide) (by decide) (by decide) (by simp), hs 12 x (by omega)]; exact (a2 x hx).1
  · rw [e 38 x rfl (by decide) (by decide) (by decide) (by decide) (by simp), hs 5 x (by omega)]; exact (a3 x hx).2.2.1
  · rw [e 39 x rfl (by decide) (by decide) (by decide) (by decide) (by simp), hs 6 x (by omega)]; exact (a3 x hx).2.2.2.1
  · rw [e 40 x rfl (by decide) (by decide) (by decide) (by decide) (by simp), g8]; exact (a3 x hx).2.2.2.2
  · rw [e 8 _ rfl (by decide) (by decide) (by decide) (by decide) (by simp), hs 9 0 (by omega)]; exact a4
  · rw [e 8 _ rfl (by decide) (by decide) (by decide) (by decide) (by simp), hs 10 0 (by omega)]; exact a5
  · rw [e 8 _ rfl (by decide) (by decide) (by decide) (by decide) (by simp), hs 13 0 (by omega)]; exact a6
  · rw [e 8 _ rfl (by decide) (by decide) (by decide) (by decide) (by simp), hs 14 0 (by omega)]; exact a7
theorem RS.upd {I I' : zI} {T : aT} {S S' : aS} (h6 : T.1 0 ≤ 6) (hp : pln I) (hp' : pln I') (h : RS I 0 T S) (e0 : ∀ x, x < T.1 0 → I' 76 0 x = S' 0 x) (e2 : ∀ x, x < T.1 1 → I' 78 0 x = S' 2 x) (e3 : ∀ x, x < T.1 2 → I' 79 0 x = S' 3 x ∧ I' 80 0 x = S' 4 x ∧ I' 83 0 x = S' 7 x) (e : ∀ a c, rsK a c = true → ¬ (a = 76 ∨ a = 78 ∨ a = 79 ∨ a = 80 ∨ a = 83 ∨ a = 12) → I' a 0 c = I a 0 c) (hs : ∀ f i, ¬ (f = 0 ∨ f = 2 ∨ f = 3 ∨ f = 4 ∨ f = 7) → S' f i = S f i) (h4 : ∀ r, r < T.1 2 → ¬ S 5 r = 0 → S' 4 r = S 4 r) : RS I' 0 T S' := by
  obtain ⟨a1, a2, a3, a4, a5, a6⟩ := h
  refine ⟨fun x hx => ⟨?_, ?_, ?_⟩, fun x hx => ⟨?_, ?_⟩, fun x hx => ?_, ?_, ?_, ?_⟩
  · rw [coldR_pln hp' (by omega), show 6 * 0 + x = x by omega]; exact e0 x hx
  · rw [e 77 _ rfl (by omega), hs 1 x (by omega)]; exact (a1 x hx).2.1
  · have := (a1 x hx).2.2
    rw [agedR_pln hp] at this
    rw [agedR_pln hp', e 57 _ rfl (by omega), hs 11 x (by omega)]; exact this
  · have := (a2 x hx).1
    rw [hardR_pln hp] at this
    rw [hardR_pln hp', e 61 _ rfl (by omega), hs 12 x (by omega)]; exact this
  · rw [show 4 * 0 + x = x by omega]; exact e2 x hx
  · obtain ⟨b1, b2, b3, b4, b5, b6, b7⟩ := a3 x hx
    obtain ⟨c1, c2, c3⟩ := e3 x hx
    rw [show 10 * 0 + x = x by omega] at b3 b4 b6 ⊢
    refine ⟨c1, c2, ?_, ?_, c3, fun q => ?_, fun k hk => ?_⟩
    · rw [e 81 _ rfl (by omega), hs 5 x (by omega)]; exact b3
    · rw [e 82 _ rfl (by omega), hs 6 x (by omega)]; exact b4
    · rw [hs 5 x (by omega)] at q
      rw [e 84 _ rfl (by omega), h4 x hx q]; exact b6 q
    · rw [e 85 _ rfl (by omega), hs 8 _ (by omega)]; exact b7 k hk
  · rw [e 86 _ rfl (by omega), hs 9 0 (by omega)]; exact a4
  · rw [likeR_pln hp] at a5
    rw [likeR_pln hp', e 54 _ rfl (by omega), hs 13 0 (by omega)]; exact a5
  · rw [hp.2.1, if_neg (by decide)] at a6
    rw [hp'.2.1, if_neg (by decide), hs 14 0 (by omega)]; exact a6
theorem RC.upd {A : aA} {I I' : zI} {P : zP} {S' : aS} {U' : aU} (h : RC A I P) (e : ∀ a b c, ¬ (b = 0 ∧ (a = 8 ∨ a = 0 ∨ a = 13 ∨ (31 ≤ a ∧ a ≤ 41))) → scrC a b = false → I' a b c = I a b c) (hS : CS I' 0 A.T S') (hD : RCd A.T S' U' I') : RC (updA A S' U') I' P := by
  obtain ⟨t, h1, h2, h3, h4, h5, h6, h7, h8, h9⟩ := h
  have hcs : ∀ {a c : Nat}, csK a c = true → scrC a 1 = false := fun {a c} q => scrC_cs q (by decide)
  refine ⟨t, ⟨h1.1.fr (fun a b c q => e a b c (fun z => ?_) (scrC_ct q)), h1.2.1, h1.2.2.1, fun x hx i hi => (e 15 _ i (by omega) rfl).trans (h1.2.2.2.1 x hx i hi), ?_⟩, h2, hS, ?_, hD, ?_, ?_, ?_, ?_⟩
  · unfold ctK at q
    simp only [Bool.or_eq_true, beq_iff_eq] at q
    omega
  · rw [e 9 t _ (by omega) rfl, e 9 t _ (by omega) rfl]; exact h1.2.2.2.2
  · show RCi A.T A.im I' P t
    revert h4
    unfold RCi
    have e1 : I' 11 0 14 = I 11 0 14 := e 11 0 _ (by omega) rfl
    cases A.im with
    | none => intro h4; exact e1.trans h4
    | some S => intro h4; exact ⟨e1.trans h4.1, h4.2.1, h4.2.2.fr (fun a c q => e a 1 c (by omega) (hcs q))⟩
  · show RCo A.T A.O A.lm I'
    obtain ⟨g1, g2, g3, g4, g5⟩ := h6
    refine ⟨(e 3 0 _ (by omega) rfl).trans g1, g2, (e 3 0 _ (by omega) rfl).trans g3, g4, fun i hi => ?_⟩
    have := g5 i hi
    rw [e 18 0 i (by omega) rfl, e 19 0 i (by omega) rfl, e 20 0 i (by omega) rfl, e 21 0 i (by omega) rfl]
    exact this
  · exact ⟨(e 11 0 _ (by omega) rfl).trans h7.1, h7.2.1, fun i hi => by rw [e 47 0 i (by omega) rfl]; exact h7.2.2 i hi⟩
  · exact ⟨(e 5 0 _ (by omega) rfl).trans h8.1, (e 5 0 _ (by omega) rfl).trans h8.2⟩
  · exact fun i hi => (e 27 0 i (by omega) rfl).trans (h9 i hi)
def updF (a c : Nat) : Prop := scrR a c ∨ (76 ≤ a ∧ a ≤ 86) ∨ a = 91 ∨ (a = 12 ∧ (c = 73 ∨ c = 63 ∨ c = 64 ∨ c = 65 ∨ c = 66 ∨ c = 67))
theorem RR.upd {A : aA} {I I' : zI} {L L' : zJ} {S' : aS} {U' : aU} (h : RR A I L) (hI : ony updF I I') (hL : zeLd L L') (hp : pln I') (hS : RS I' 0 A.T S') (hz : ∀ c, c < A.T.1 2 → zb (I' 83 0 c)) (hn : 0 ≤ S' 10 0 ∧ L' 12 0 61 = (S' 10 0).toInt64) (hU : I' 12 0 73 = nI U'.1 ∧ ∀ i, i < U'.1 → snp A.T (U'.2 i) I' 91 (40 * i)) : RR (updA A S' U') I' L' := by
  obtain ⟨h1, h2, h3, h4, h5, h6, h7, h8, h9, h10, h11⟩ := h
  have lo : ∀ a c, (¬ updF a c) → I' a 0 c = I a 0 c := fun a c q => hI.lo q
  have l12 : ∀ c, ¬ (c = 2 ∨ c = 49 ∨ c = 73 ∨ c = 63 ∨ c = 64 ∨ c = 65 ∨ c = 66 ∨ c = 67) → I' 12 0 c = I 12 0 c := fun c q => lo 12 c (by unfold updF scrR upH; omega)
  refine ⟨h1.fr (fun a c q => lo a c ?_), hS, hp, hz, hn, ?_, hU, ?_, ⟨(l12 _ (by decide)).trans h9.1, fun i hi => (lo 51 i (by unfold updF scrR upH; omega)).trans (h9.2 i hi)⟩, ⟨(l12 _ (by decide)).trans h10.1, (l12 _ (by decide)).trans h10.2⟩, fun i hi => (lo 52 i (by unfold updF scrR upH; omega)).trans (h11 i hi)⟩
  · unfold rtK at q
    simp only [Bool.or_eq_true, Bool.and_eq_true, Nat.ble_eq, beq_iff_eq] at q
    unfold updF scrR upH
    omega
  · show RRi A.T A.im I' L'
    revert h6
    unfold RRi
    have e : I' 12 0 75 = I 12 0 75 := l12 _ (by decide)
    have e93 : ∀ c, I' 93 0 c = I 93 0 c := fun c => lo 93 c (by unfold updF scrR upH; omega)
    cases A.im with
    | none => intro h6; exact e.trans h6
    | some S =>
      intro h6
      simp only [e, e93, hL 12 0 78 (by decide) (by decide) (by decide)]
      exact ⟨h6.1, h6.2.1.q (fun c => lo 92 c (by unfold updF scrR upH; omega)), h6.2.2⟩
  · show RRo A.O A.lm I'
    obtain ⟨g1, g2, g3⟩ := h8
    refine ⟨(l12 _ (by decide)).trans g1, (l12 _ (by decide)).trans g2, fun i hi => ?_⟩
    have := g3 i hi
    have e89 : ∀ c, I' 89 0 c = I 89 0 c := fun c => lo 89 c (by unfold updF scrR upH; omega)
    rw [e89, e89, e89]
    exact this
theorem ony_Y {F : Nat → Nat → Prop} {I I' : zI} (h : ony F I I') (hF : ∀ a c, F a c → a = 12 ∨ 51 ≤ a) : frY I I' := fun a b c q q2 => h a b c (fun e => by have := hF a c e.2; omega)
theorem updF_Y (a c : Nat) (h : updF a c) : a = 12 ∨ 51 ≤ a := by unfold updF scrR upH at h; omega
theorem frR_ony {I I' : zI} (h : frR I I') : ony updF I I' := fun a b c q => h a b c (fun e => q ⟨e.1, Or.inl e.2⟩)
-- deeds
theorem dOK.cg {T : aT} {d d' : Nat → Int32} {S0 S1 : aS} (h : dOK T d S0 S1) (e : ∀ q, q < 4 → d' q = d q) : dOK T d' S0 S1 := by
  unfold dOK at h ⊢
  rw [e 0 (by omega), e 1 (by omega), e 2 (by omega), e 3 (by omega)]
  exact h
theorem RCd.cg {T : aT} {S : aS} {U : aU} {I I' : zI} (h : RCd T S U I) (e0 : I' 0 0 1 = I 0 0 1) (e13 : ∀ c, I' 13 0 c = I 13 0 c) : RCd T S U I' := by
  obtain ⟨g1, g2, g3⟩ := h
  exact ⟨e0.trans g1, g2, fun i hi => (g3 i hi).cg (fun q _ => e13 _)⟩
theorem p_add30 {K : zQ} {I : zI} {L : zJ} {P : zP} {n : Nat} {d0 d1 d2 d3 : Int32} {z5 : Option zV} (hn : n ≤ 19) (hs : I 0 0 1 = nI n) (hK : ∀ I' : zI, ony (fun a _ => a = 0 ∨ a = 13) I I' → I' 0 0 1 = nI (n + 1) → (∀ c, c < 4 * n → I' 13 0 c = I 13 0 c) → I' 13 0 (4 * n) = d0 → I' 13 0 (4 * n + 1) = d1 → I' 13 0 (4 * n + 2) = d2 → I' 13 0 (4 * n + 3) = d3 → K [] (I', L, P)) : bX0_add_30 K [some (.inr (.inr (0, 0))), some (.inl d0), some (.inl d1), some (.inl d2), some (.inl d3), z5] [] (I, L, P) := by
  unfold bX0_add_30
  dsimp only [x_int, x_lng, x_ild, x_lld, x_ald, x_ist, x_ast, x_lst, x_inc, x_ii, x_id, x_i, x_ll, x_ld, x_l, x_cmp, x_i2l, x_l2i, x_if, x_ic, x_dup, x_pop, x_dup2, x_gI, x_gL, x_gR, x_g1, x_g0, x_gP, x_pI, x_pZ, x_pL, x_pP, x_al, x_as, x_all, x_asl, x_alr, x_len, x_cpy, x_m2, x_m1, x_m2l, x_m1l, x_call, x_cv, x_ri, x_rz, x_rl, x_rv, zg, zset, zbef, zlong, zcat, cond_true, cond_false, List.take, List.drop, rv1, rv2, rv3, rv4, rv5, rv6, rv7, sm0, sm1, bl0, bl1, bl2, bl3, bl4, bl5, bl6, bl7, bl8, List.nil_append, List.cons_append, List.length_cons, List.length_nil, Nat.reduceBEq, Nat.reduceAdd, Nat.reduceSub, ta, tb, tn0, tn1, tn2, tn3, tn4, tn5, tn6, tn7, tn8, tn9, tn10, tn11, tn12, zk_13, zl_13]
  have r : ∀ a0 a1 a2 a3 v0 v1 v2 v3, (zsI (zsI (zsI (zsI (I, L, P) 13 0 a0 v0) 13 0 a1 v1) 13 0 a2 v2) 13 0 a3 v3).1 0 0 1 = I 0 0 1 := fun _ _ _ _ _ _ _ _ => rfl
  rw [r, hs, show nI n * 4 = nI (4 * n) by rw [show (4 : Int32) = nI 4 from rfl, n_mul, Nat.mul_comm], show nI (4 * n) + 1 = nI (4 * n + 1) from n_add _ 1, show nI (4 * n) + 2 = nI (4 * n + 2) from n_add _ 2, show nI (4 * n) + 3 = nI (4 * n + 3) from n_add _ 3, n_cl (n := 4 * n) (by omega), n_cl (n := 4 * n + 1) (by omega), n_cl (n := 4 * n + 2) (by omega), n_cl (n := 4 * n + 3) (by omega), n_succ n]
  refine ⟨n_zin (by omega) (by decide), n_zin (by omega) (by decide), n_zin (by omega) (by decide), n_zin (by omega) (by decide), ?_⟩
  refine hK _ (ony.set (ony.set (ony.set (ony.set (ony.set ony.rf (Or.inr rfl)) (Or.inr rfl)) (Or.inr rfl)) (Or.inr rfl)) (Or.inl rfl)) ?_ (fun c hc => ?_) ?_ ?_ ?_ ?_
  · simp [zsI]
  · have h0 : ¬ c = 4 * n := by omega
    have h1 : ¬ c = 4 * n + 1 := by omega
    have h2 : ¬ c = 4 * n + 2 := by omega
    have h3 : ¬ c = 4 * n + 3 := by omega
    simp [zsI, h0, h1, h2, h3]
  · simp [zsI]
  · simp [zsI]
  · simp [zsI]
  · simp [zsI]
theorem p_add {K : zQ} {I : zI} {L : zJ} {P : zP} {T : aT} {S S' : aS} {U : aU} {d : Nat → Int32} (hD : RCd T S U I) (hd : dOK T d S S') (hK : ∀ I' : zI, ony (fun a _ => a = 0 ∨ a = 13) I I' → RCd T S' (push U S) I' → K [] (I', L, P)) : mX0_add K [.inr (.inr (0, 0)), .inl (d 0), .inl (d 1), .inl (d 2), .inl (d 3)] (I, L, P) := by
  obtain ⟨g1, g2, g3⟩ := hD
  have fin : ∀ I1 : zI, ony (fun a _ => a = 0 ∨ a = 13) I I1 → I1 0 0 1 = nI (pN U) → (∀ c, c < 4 * pN U → I1 13 0 c = I 13 0 (c + 4 * pD U)) → bX0_add_30 K [some (.inr (.inr (0, 0))), some (.inl (d 0)), some (.inl (d 1)), some (.inl (d 2)), some (.inl (d 3)), none] [] (I1, L, P) := fun I1 f1 s1 c1 => by
    have hn : pN U ≤ 19 := by unfold pN; omega
    have hu : U.1 = pN U + pD U := by unfold pN pD; omega
    refine p_add30 hn s1 (fun I' f2 s2 lo e0 e1 e2 e3 => hK I' (f1.tr f2) ⟨s2, by show pN U + 1 ≤ 20; omega, fun i hi => ?_⟩)
    have hi : i < pN U + 1 := hi
    by_cases z : i = pN U
    · subst z
      have u1 : (push U S).2 (pN U) = S := if_pos rfl
      have u2 : nxt (push U S) S' (pN U) = S' := if_neg (by show ¬ pN U + 1 < pN U + 1; omega)
      rw [u1, u2]
      refine hd.cg (fun q hq => ?_)
      have : q = 0 ∨ q = 1 ∨ q = 2 ∨ q = 3 := by omega
      rcases this with rfl | rfl | rfl | rfl
      · exact e0
      · exact e1
      · exact e2
      · exact e3
    · have u1 : (push U S).2 i = U.2 (i + pD U) := if_neg z
      have u2 : nxt (push U S) S' i = nxt U S (i + pD U) := by
        unfold nxt
        rw [if_pos (show i + 1 < (push U S).1 by show i + 1 < pN U + 1; omega)]
        show (if i + 1 = pN U then S else U.2 (i + 1 + pD U)) = _
        by_cases z2 : i + 1 = pN U
        · rw [if_pos z2, if_neg (by omega)]
        · rw [if_neg z2, if_pos (by omega), show i + 1 + pD U = i + pD U + 1 by omega]
      rw [u1, u2]
      refine (g3 (i + pD U) (by omega)).cg (fun q hq => ?_)
      show I' 13 0 (4 * i + q) = I 13 0 (4 * (i + pD U) + q)
      rw [lo _ (by omega), c1 _ (by omega), show 4 * i + q + 4 * pD U = 4 * (i + pD U) + q by omega]
  show bX0_add_0 K [some (.inr (.inr (0,0))), some (.inl (d 0)), some (.inl (d 1)), some (.inl (d 2)), some (.inl (d 3)), none] [] (I, L, P)
  unfold bX0_add_0
  dsimp only [x_int, x_lng, x_ild, x_lld, x_ald, x_ist, x_ast, x_lst, x_inc, x_ii, x_id, x_i, x_ll, x_ld, x_l, x_cmp, x_i2l, x_l2i, x_if, x_ic, x_dup, x_pop, x_dup2, x_gI, x_gL, x_gR, x_g1, x_g0, x_gP, x_pI, x_pZ, x_pL, x_pP, x_al, x_as, x_all, x_asl, x_alr, x_len, x_cpy, x_m2, x_m1, x_m2l, x_m1l, x_call, x_cv, x_ri, x_rz, x_rl, x_rv, zg, zset, zbef, zlong, zcat, cond_true, cond_false, List.take, List.drop, rv1, rv2, rv3, rv4, rv5, rv6, rv7, sm0, sm1, bl0, bl1, bl2, bl3, bl4, bl5, bl6, bl7, bl8, List.nil_append, List.cons_append, List.length_cons, List.length_nil, Nat.reduceBEq, Nat.reduceAdd, Nat.reduceSub, ta, tb, tn0, tn1, tn2, tn3, tn4, tn5, tn6, tn7, tn8, tn9, tn10, tn11, tn12, zc_13, tn76]
  rw [g1]
  refine ⟨fun c => ?_, fun c => ⟨by decide, ?_⟩⟩
  · rw [show (20 : Int32) = nI 20 from rfl, n_lt (by omega) (by decide)] at c
    have e1 : pN U = U.1 := by unfold pN; omega
    have e2 : pD U = 0 := by unfold pD; omega
    exact fin I ony.rf (by rw [e1]; exact g1) (fun c _ => by rw [e2]; rfl)
  · rw [show (20 : Int32) = nI 20 from rfl, n_lt (by omega) (by decide)] at c
    have e1 : pN U = 19 := by unfold pN; omega
    have e2 : pD U = 1 := by unfold pD; omega
    refine fin _ (fun a b c q => ?_) ?_ (fun c hc => ?_)
    · have q1 : ¬ (a = 0 ∧ b = 0 ∧ c = 1) := fun e => q ⟨e.2.1, Or.inl e.1⟩
      have q2 : ¬ (a = 13 ∧ b = 0 ∧ 0 ≤ c ∧ c < 0 + 76) := fun e => q ⟨e.2.1, Or.inr e.1⟩
      simp only [zsI, zcp]
      rw [if_neg q1, if_neg q2]
    · rw [e1]; rfl
    · rw [e1] at hc
      rw [e2]
      have : c < 76 := by omega
      simp [zsI, zcp, this, Nat.add_comm]
