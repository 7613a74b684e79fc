theorem RTp.g {B : Nat → Nat} {n : Nat} {I I' : zI} (h : RTp B n I) (e : frG I I') : RTp B n I' := h.q (fun a c u => e.lo (by unfold rrK; omega))
def vk (I : zI) : zI := fun a b c => I a b (64 + c)
def RLq (I : zI) (l : List Int32) (q K : Nat) : Prop := (l = [] ∧ I 66 0 (3 + q) = 0) ∨ (I 66 0 (3 + q) = 1 ∧ ∃ a, I 67 0 (3 + q) = nI a ∧ I 68 0 (3 + q) = nI (a + l.length) ∧ a + l.length ≤ K ∧ RK (vk I) l a [])
theorem RK_frb {I I' : zI} : ∀ (cs : List Int32) (p : Nat) (st : List Nat), (∀ a c, a = 69 ∨ a = 70 ∨ a = 71 → c < p + cs.length → I' a 0 c = I a 0 c) → RK I cs p st → RK I' cs p st := by
  intro cs
  induction cs with
  | nil => intro p st _ h; exact h
  | cons c cs ih =>
    rintro p st e ⟨h1, st', h2, h3⟩
    have e1 : ∀ a, a = 69 ∨ a = 70 ∨ a = 71 → I' a 0 p = I a 0 p := fun a u => e a p u (by rw [List.length_cons]; omega)
    refine ⟨h1, st', ?_, ih (p + 1) st' (fun a c u v => e a c u (by rw [List.length_cons]; omega)) h3⟩
    unfold RK1 at h2 ⊢
    rw [e1 69 (by omega), e1 70 (by omega), e1 71 (by omega)]
    exact h2
theorem RLq.f {I I' : zI} {l : List Int32} {q K : Nat} (hq : q < 3) (h : RLq I l q K) (e : ∀ a c, (66 ≤ a ∧ a ≤ 68) ∧ c = 3 + q → I' a 0 c = I a 0 c) (e2 : ∀ a c, 69 ≤ a ∧ a ≤ 71 → c < 64 + K → I' a 0 c = I a 0 c) : RLq I' l q K := by
  unfold RLq at h ⊢
  rw [e 66 _ (by omega), e 67 _ (by omega), e 68 _ (by omega)]
  rcases h with h | ⟨h1, a, h2, h3, h4, h5⟩
  · exact Or.inl h
  · exact Or.inr ⟨h1, a, h2, h3, h4, RK_frb (I := vk I) (I' := vk I') _ _ _ (fun b c u v => e2 b (64 + c) (by omega) (by omega)) h5⟩
def RQ (I : zI) (Q : aQ) : Prop := (I 12 0 16 = nI (Q.1.1 0) ∧ I 12 0 17 = nI (Q.1.1 1) ∧ I 12 0 18 = nI (Q.1.1 2)) ∧ (Q.1.1 0 ≤ 6 ∧ Q.1.1 1 ≤ 4 ∧ Q.1.1 2 ≤ 10) ∧
  (∀ h, h < Q.1.1 0 → I 55 0 (6 + h) = Q.1.2.1 0 h ∧ I 56 0 (6 + h) = Q.1.2.1 1 h ∧ I 57 0 (6 + h) = Q.1.2.1 2 h ∧ ∀ k, k < 6 → I 58 0 (36 + (6 * h + k)) = Q.1.2.1 3 (6 * h + k)) ∧
  (∀ w, w < Q.1.1 1 → I 59 0 (4 + w) = Q.1.2.1 4 w ∧ I 60 0 (4 + w) = Q.1.2.1 5 w ∧ I 61 0 (4 + w) = Q.1.2.1 6 w ∧ I 62 0 (4 + w) = Q.1.2.1 7 w) ∧
  (∀ r, r < Q.1.1 2 → I 63 0 (10 + r) = Q.1.2.1 8 r ∧ I 64 0 (10 + r) = Q.1.2.1 9 r ∧ I 65 0 (10 + r) = Q.1.2.1 10 r) ∧
  (I 54 0 2 = Q.1.2.1 11 0 ∧ I 54 0 3 = Q.1.2.1 12 0 ∧ I 12 0 19 = Q.1.2.1 13 0 ∧ I 12 0 44 = Q.1.2.1 13 0) ∧
  (∀ q, q < 3 → RLq I (Q.1.2.2 q) q (Q.1.2.1 13 0).toNatClampNeg) ∧ I 53 0 0 = bI Q.2.1 ∧ I 53 0 1 = bI Q.2.2
theorem btA_inr {B : Nat → Nat} {n : Nat} {x : Nat × Nat} : ∀ k, btA B n k (.inr x) = .inr x := by
  intro k
  induction k with
  | zero => rfl
  | succ k ih => rw [btA_s, ih]; rfl
theorem p_handLine {K : zQ} {I : zI} {L : zJ} {P : zP} {B : Nat → Nat} {n i : Nat} {Q : aQ} (hp : RTp B n I) (hQ : RQ I Q) (h : tkR B n i I) (hk : kd B n i = 0) (hK : ∀ I' : zI, frG I I' → stR B n (bodA B n Q i).1 I' → (∀ j, (bodA B n Q i).1 = .inl j → RQ I' (bodA B n Q i).2) → K [.inl (aB (bodA B n Q i).1)] (I', L, P)) : mX12_handLine K [refR] (I, L, P) := by
  have hQ0 := hQ
  obtain ⟨⟨q1, q2, q3⟩, ⟨b6, b4, b10⟩, qh, qw, qr, qo, ql, qf⟩ := hQ
  have bd : bodA B n Q i = (if Q.1.1 0 < 6 then btA B n 6 (nuA B n 0 99 (nuA B n 0 9 (nnA B n (Q.1.2.1 0) (Q.1.1 0) (.inl (i + 1))))) else .inr (2, i), (addH Q.1 (fun q => vl B n (i + 1 + q)), Q.2)) := if_pos hk
  rw [bd] at hK
  show bX12_handLine_0 K [some (.inr (.inr (12,0))), none] [] (I, L, P)
  unfold bX12_handLine_0
  dsimp only [x_int, x_lng, x_ild, x_lld, x_ald, x_ist, x_ast, x_lst, x_inc, x_ii, x_id, x_i, x_ll, x_ld, x_l, x_cmp, x_i2l, x_l2i, x_if, x_ic, x_dup, x_pop, x_dup2, x_gI, x_gL, x_gR, x_g1, x_g0, x_gP, x_pI, x_pZ, x_pL, x_pP, x_al, x_as, x_all, x_asl, x_alr, x_len, x_cpy, x_m2, x_m1, x_m2l, x_m1l, x_call, x_cv, x_ri, x_rz, x_rl, x_rv, zg, zset, zbef, zlong, zcat, cond_true, cond_false, List.take, List.drop, rv1, rv2, rv3, rv4, rv5, rv6, rv7, sm0, sm1, bl0, bl1, bl2, bl3, bl4, bl5, bl6, bl7, bl8, List.nil_append, List.cons_append, List.length_cons, List.length_nil, Nat.reduceBEq, Nat.reduceAdd, Nat.reduceSub, ta, tb, tn0, tn1, tn2, tn3, tn4, tn5, tn6, tn7, tn8, tn9, tn10, tn11, tn12]
  rw [q1]
  refine ⟨fun z => p_wrong (e := 2) h (fun I1 f1 s1 => ?_), fun z => p_next hp h (fun I1 f1 t1 => ?_)⟩
  · have z : nI (Q.1.1 0) = nI 6 := z
    rw [n_eq (by omega) (by omega)] at z
    dsimp only at hK
    rw [if_neg (by omega)] at hK
    exact ⟨Or.inl rfl, hK I1 (wrong_G f1) s1 (fun j ej => by cases ej)⟩
  have z : ¬ nI (Q.1.1 0) = nI 6 := z
  rw [n_eq (by omega) (by omega)] at z
  dsimp only at hK
  rw [if_pos (by omega)] at hK
  generalize hc : Q.1.1 0 = c at *
  -- what is changed on the way
  let F : Nat → Nat → Prop := fun a q => (a = 12 ∧ (4 ≤ q ∧ q ≤ 11 ∧ ¬ q = 6)) ∨ ((a = 55 ∨ a = 56 ∨ a = 57) ∧ q = 6 + c) ∨ (a = 58 ∧ 36 + 6 * c ≤ q ∧ q < 36 + 6 * c + 6)
  have FG : ∀ {J : zI}, ony F I J → frG I J := fun g => g.mono (fun a q u => by unfold rrK; have u : (a = 12 ∧ (4 ≤ q ∧ q ≤ 11 ∧ ¬ q = 6)) ∨ ((a = 55 ∨ a = 56 ∨ a = 57) ∧ q = 6 + c) ∨ (a = 58 ∧ 36 + 6 * c ≤ q ∧ q < 36 + 6 * c + 6) := u; omega)
  have F1 : ony F I I1 := fun a b q u => f1 a b q (fun v => u ⟨v.2.1, Or.inl ⟨v.1, by omega⟩⟩)
  have r16 : ∀ {J : zI}, ony F I J → J 12 0 16 = nI c := fun g => (g.lo (fun u => by have u : (12 = 12 ∧ (4 ≤ 16 ∧ 16 ≤ 11 ∧ ¬ 16 = 6)) ∨ ((12 = 55 ∨ 12 = 56 ∨ 12 = 57) ∧ 16 = 6 + c) ∨ (12 = 58 ∧ 36 + 6 * c ≤ 16 ∧ 16 < 36 + 6 * c + 6) := u; omega)).trans q1
  have exitR : ∀ (J : zI) (x : Nat × Nat), ony F I J → stR B n (.inr x) J → btA B n 6 (nuA B n 0 99 (nuA B n 0 9 (nnA B n (Q.1.2.1 0) c (.inl (i + 1))))) = .inr x → K [.inl 0] (J, L, P) := fun J x g1 g2 g3 => by
    rw [g3] at hK
    exact hK J (FG g1) g2 (fun j ej => by cases ej)
  dsimp only [x_int, x_lng, x_ild, x_lld, x_ald, x_ist, x_ast, x_lst, x_inc, x_ii, x_id, x_i, x_ll, x_ld, x_l, x_cmp, x_i2l, x_l2i, x_if, x_ic, x_dup, x_pop, x_dup2, x_gI, x_gL, x_gR, x_g1, x_g0, x_gP, x_pI, x_pZ, x_pL, x_pP, x_al, x_as, x_all, x_asl, x_alr, x_len, x_cpy, x_m2, x_m1, x_m2l, x_m1l, x_call, x_cv, x_ri, x_rz, x_rl, x_rv, zg, zset, zbef, zlong, zcat, cond_true, cond_false, List.take, List.drop, rv1, rv2, rv3, rv4, rv5, rv6, rv7, sm0, sm1, bl0, bl1, bl2, bl3, bl4, bl5, bl6, bl7, bl8, List.nil_append, List.cons_append, List.length_cons, List.length_nil, Nat.reduceBEq, Nat.reduceAdd, Nat.reduceSub, ta, tb, tn0, tn1, tn2, tn3, tn4, tn5, tn6, tn7, tn8, tn9, tn10, tn11, tn12]
  rw [r16 F1]
  refine p_newName (o := 6) (f := Q.1.2.1 0) rfl (by decide) (by show 6 + c < 12; omega) (by decide) (fun y hy => ?_) (hp.g (FG F1)) t1 (fun I2 f2 s2 v2 => ?_)
  · rw [f1 _ _ _ (by omega)]; exact (qh y hy).1
  have F2 : ony F I I2 := F1.tr (f2.mono (fun a q u => u.elim Or.inl (fun v => Or.inr (Or.inl ⟨by omega, v.2⟩))))
  dsimp only [x_int, x_lng, x_ild, x_lld, x_ald, x_ist, x_ast, x_lst, x_inc, x_ii, x_id, x_i, x_ll, x_ld, x_l, x_cmp, x_i2l, x_l2i, x_if, x_ic, x_dup, x_pop, x_dup2, x_gI, x_gL, x_gR, x_g1, x_g0, x_gP, x_pI, x_pZ, x_pL, x_pP, x_al, x_as, x_all, x_asl, x_alr, x_len, x_cpy, x_m2, x_m1, x_m2l, x_m1l, x_call, x_cv, x_ri, x_rz, x_rl, x_rv, zg, zset, zbef, zlong, zcat, cond_true, cond_false, List.take, List.drop, rv1, rv2, rv3, rv4, rv5, rv6, rv7, sm0, sm1, bl0, bl1, bl2, bl3, bl4, bl5, bl6, bl7, bl8, List.nil_append, List.cons_append, List.length_cons, List.length_nil, Nat.reduceBEq, Nat.reduceAdd, Nat.reduceSub, ta, tb, tn0, tn1, tn2, tn3, tn4, tn5, tn6, tn7, tn8, tn9, tn10, tn11, tn12]
  cases e2 : nnA B n (Q.1.2.1 0) c (.inl (i + 1)) with
  | inr x =>
    rw [e2] at s2
    exact ⟨fun _ => ⟨Or.inl rfl, exitR I2 x F2 s2 (by rw [e2]; exact btA_inr 6)⟩, fun y => absurd rfl y⟩
  | inl j2 =>
    obtain ⟨_, a1, a2⟩ := nnA_inl e2
    cases a1
    subst a2
    have v2 := v2 _ e2
    rw [e2] at s2
    rw [e2] at exitR hK
    have t2 : tkR B n (i + 1 + 1) I2 := s2
    refine ⟨fun y => absurd y (show ¬ (1 : Int32) = 0 by decide), fun _ => ?_⟩
    refine p_number (lo := 0) (hi := 9) (by omega) (hp.g (FG F2)) t2 (fun I3 f3 s3 v3 => ?_)
    have F3 : ony F I I3 := F2.tr (f3.mono (fun a q u => Or.inl u))
    dsimp only [x_int, x_lng, x_ild, x_lld, x_ald, x_ist, x_ast, x_lst, x_inc, x_ii, x_id, x_i, x_ll, x_ld, x_l, x_cmp, x_i2l, x_l2i, x_if, x_ic, x_dup, x_pop, x_dup2, x_gI, x_gL, x_gR, x_g1, x_g0, x_gP, x_pI, x_pZ, x_pL, x_pP, x_al, x_as, x_all, x_asl, x_alr, x_len, x_cpy, x_m2, x_m1, x_m2l, x_m1l, x_call, x_cv, x_ri, x_rz, x_rl, x_rv, zg, zset, zbef, zlong, zcat, cond_true, cond_false, List.take, List.drop, rv1, rv2, rv3, rv4, rv5, rv6, rv7, sm0, sm1, bl0, bl1, bl2, bl3, bl4, bl5, bl6, bl7, bl8, List.nil_append, List.cons_append, List.length_cons, List.length_nil, Nat.reduceBEq, Nat.reduceAdd, Nat.reduceSub, ta, tb, tn0, tn1, tn2, tn3, tn4, tn5, tn6, tn7, tn8, tn9, tn10, tn11, tn12]
    cases e3 : nuA B n 0 9 (.inl (i + 1 + 1)) with
    | inr x =>
      rw [e3] at s3
      exact ⟨fun _ => ⟨Or.inl rfl, exitR I3 x F3 s3 (by rw [e3]; exact btA_inr 6)⟩, fun y => absurd rfl y⟩
    | inl j3 =>
      obtain ⟨_, a1, a2, -⟩ := nuA_inl e3
      cases a1
      subst a2
      have v3 := v3 _ e3
      rw [e3] at s3
      rw [e3] at exitR hK
      have t3 : tkR B n (i + 1 + 1 + 1) I3 := s3
      refine ⟨fun y => absurd y (show ¬ (1 : Int32) = 0 by decide), fun _ => ?_⟩
      dsimp only [zk_56, zl_56, cond_true]
      rw [r16 F3, v3, show (6 : Int32) + nI c = nI (6 + c) from n_add 6 c, n_cl (n := 6 + c) (by omega)]
      refine ⟨n_zin (by omega) (by decide), ?_⟩
      obtain ⟨J3, g3, x3, k3⟩ := zsI_ex I3 L P 56 0 (6 + c) (vl B n (i + 1 + 1))
      rw [g3]
      have G3 : ony F I J3 := fun a b q u => (k3 a b q (fun v => u ⟨v.2.1, Or.inr (Or.inl ⟨by omega, v.2.2⟩)⟩)).trans (F3 a b q u)
      refine p_number (lo := 0) (hi := 99) (by omega) (hp.g (FG G3)) (t3.q (fun q u1 u2 => k3 _ _ _ (by omega))) (fun I4 f4 s4 v4 => ?_)
      have F4 : ony F I I4 := G3.tr (f4.mono (fun a q u => Or.inl u))
      dsimp only [x_int, x_lng, x_ild, x_lld, x_ald, x_ist, x_ast, x_lst, x_inc, x_ii, x_id, x_i, x_ll, x_ld, x_l, x_cmp, x_i2l, x_l2i, x_if, x_ic, x_dup, x_pop, x_dup2, x_gI, x_gL, x_gR, x_g1, x_g0, x_gP, x_pI, x_pZ, x_pL, x_pP, x_al, x_as, x_all, x_asl, x_alr, x_len, x_cpy, x_m2, x_m1, x_m2l, x_m1l, x_call, x_cv, x_ri, x_rz, x_rl, x_rv, zg, zset, zbef, zlong, zcat, cond_true, cond_false, List.take, List.drop, rv1, rv2, rv3, rv4, rv5, rv6, rv7, sm0, sm1, bl0, bl1, bl2, bl3, bl4, bl5, bl6, bl7, bl8, List.nil_append, List.cons_append, List.length_cons, List.length_nil, Nat.reduceBEq, Nat.reduceAdd, Nat.reduceSub, ta, tb, tn0, tn1, tn2, tn3, tn4, tn5, tn6, tn7, tn8, tn9, tn10, tn11, tn12]
      cases e4 : nuA B n 0 99 (.inl (i + 1 + 1 + 1)) with
      | inr x =>
        rw [e4] at s4
        exact ⟨fun _ => ⟨Or.inl rfl, exitR I4 x F4 s4 (by rw [e4]; exact btA_inr 6)⟩, fun y => absurd rfl y⟩
      | inl j4 =>
        obtain ⟨_, a1, a2, -⟩ := nuA_inl e4
        cases a1
        subst a2
        have v4 := v4 _ e4
        rw [e4] at s4
        rw [e4] at exitR hK
        have t4 : tkR B n (i + 4) I4 := s4
        refine ⟨fun y => absurd y (show ¬ (1 : Int32) = 0 by decide), fun _ => ?_⟩
        dsimp only [zk_57, zl_57, cond_true]
        rw [r16 F4, v4, show (6 : Int32) + nI c = nI (6 + c) from n_add 6 c, n_cl (n := 6 + c) (by omega)]
        refine ⟨n_zin (by omega) (by decide), ?_⟩
        obtain ⟨J4, g4, x4, k4⟩ := zsI_ex I4 L P 57 0 (6 + c) (vl B n (i + 1 + 1 + 1))
        rw [g4]
        have G4 : ony F I J4 := fun a b q u => (k4 a b q (fun v => u ⟨v.2.1, Or.inr (Or.inl ⟨by omega, v.2.2⟩)⟩)).trans (F4 a b q u)
        have n55 : J4 55 0 (6 + c) = vl B n (i + 1) := by rw [k4 _ _ _ (by omega), f4 _ _ _ (by omega), k3 _ _ _ (by omega), f3 _ _ _ (by omega)]; exact v2
        have n56 : J4 56 0 (6 + c) = vl B n (i + 1 + 1) := by rw [k4 _ _ _ (by omega), f4 _ _ _ (by omega)]; exact x3
        refine zinv 6 (fun k Z M => ∃ I' : zI, Z = [some refR, some (.inl (nI k))] ∧ M = (I', L, P) ∧ ony F I I' ∧ (∀ a q, a = 55 ∨ a = 56 ∨ a = 57 → I' a 0 q = J4 a 0 q) ∧ btA B n k (.inl (i + 4)) = .inl (i + 4 + k) ∧ tkR B n (i + 4 + k) I' ∧ ∀ q, q < k → I' 58 0 (36 + (6 * c + q)) = vl B n (i + 4 + q)) ?_ ?_ ⟨J4, rfl, rfl, G4, fun _ _ _ => rfl, rfl, t4.q (fun q u1 u2 => k4 _ _ _ (by omega)), fun q hq => by omega⟩
        · rintro k Z M hk6 ⟨I5, rfl, rfl, r1, r2, r3, r4, r5⟩ self hself
          dsimp only [x_int, x_lng, x_ild, x_lld, x_ald, x_ist, x_ast, x_lst, x_inc, x_ii, x_id, x_i, x_ll, x_ld, x_l, x_cmp, x_i2l, x_l2i, x_if, x_ic, x_dup, x_pop, x_dup2, x_gI, x_gL, x_gR, x_g1, x_g0, x_gP, x_pI, x_pZ, x_pL, x_pP, x_al, x_as, x_all, x_asl, x_alr, x_len, x_cpy, x_m2, x_m1, x_m2l, x_m1l, x_call, x_cv, x_ri, x_rz, x_rl, x_rv, zg, zset, zbef, zlong, zcat, cond_true, cond_false, List.take, List.drop, rv1, rv2, rv3, rv4, rv5, rv6, rv7, sm0, sm1, bl0, bl1, bl2, bl3, bl4, bl5, bl6, bl7, bl8, List.nil_append, List.cons_append, List.length_cons, List.length_nil, Nat.reduceBEq, Nat.reduceAdd, Nat.reduceSub, ta, tb, tn0, tn1, tn2, tn3, tn4, tn5, tn6, tn7, tn8, tn9, tn10, tn11, tn12]
          refine ⟨fun y => absurd y (lt_go (n := 6) rfl (by omega) hk6), fun _ => p_number (lo := 1) (hi := 4) (by omega) (hp.g (FG r1)) r4 (fun I6 f6 s6 v6 => ?_)⟩
          have F6 : ony F I I6 := r1.tr (f6.mono (fun a q u => Or.inl u))
          have bs : btA B n (k + 1) (.inl (i + 4)) = nuA B n 1 4 (.inl (i + 4 + k)) := by rw [btA_s, r3]
          dsimp only [x_int, x_lng, x_ild, x_lld, x_ald, x_ist, x_ast, x_lst, x_inc, x_ii, x_id, x_i, x_ll, x_ld, x_l, x_cmp, x_i2l, x_l2i, x_if, x_ic, x_dup, x_pop, x_dup2, x_gI, x_gL, x_gR, x_g1, x_g0, x_gP, x_pI, x_pZ, x_pL, x_pP, x_al, x_as, x_all, x_asl, x_alr, x_len, x_cpy, x_m2, x_m1, x_m2l, x_m1l, x_call, x_cv, x_ri, x_rz, x_rl, x_rv, zg, zset, zbef, zlong, zcat, cond_true, cond_false, List.take, List.drop, rv1, rv2, rv3, rv4, rv5, rv6, rv7, sm0, sm1, bl0, bl1, bl2, bl3, bl4, bl5, bl6, bl7, bl8, List.nil_append, List.cons_append, List.length_cons, List.length_nil, Nat.reduceBEq, Nat.reduceAdd, Nat.reduceSub, ta, tb, tn0, tn1, tn2, tn3, tn4, tn5, tn6, tn7, tn8, tn9, tn10, tn11, tn12]
          cases e6 : nuA B n 1 4 (.inl (i + 4 + k)) with
          | inr x =>
            rw [e6] at s6
            refine ⟨fun _ => ⟨Or.inl rfl, exitR I6 x F6 s6 ?_⟩, fun y => absurd rfl y⟩
            have up : ∀ q, btA B n (k + 1 + q) (.inl (i + 4)) = .inr x := fun q => by
              induction q with
              | zero => exact bs.trans e6
              | succ q ih => rw [← Nat.add_assoc, btA_s, ih]; rfl
            have := up (6 - (k + 1))
            rw [show k + 1 + (6 - (k + 1)) = 6 by omega] at this
            exact this
          | inl j6 =>
            obtain ⟨_, a1, a2, -⟩ := nuA_inl e6
            cases a1
            subst a2
            have v6 := v6 _ e6
            rw [e6] at s6
            refine ⟨fun y => absurd y (show ¬ (1 : Int32) = 0 by decide), fun _ => ?_⟩
            dsimp only [zk_58, zl_58, cond_true]
            rw [r16 F6, v6, show (36 : Int32) + 6 * nI c + nI k = nI (36 + (6 * c + k)) by rw [show (36 : Int32) = nI 36 from rfl, show (6 : Int32) = nI 6 from rfl, n_mul, n_add, n_add, Nat.add_assoc], n_cl (n := 36 + (6 * c + k)) (by omega), n_succ k]
            refine ⟨n_zin (by omega) (by decide), ?_⟩
            obtain ⟨J6, g6, x6, k6⟩ := zsI_ex I6 L P 58 0 (36 + (6 * c + k)) (vl B n (i + 4 + k))
            rw [g6]
            refine hself _ _ ⟨J6, rfl, rfl, fun a b q u => (k6 a b q (fun v => u ⟨v.2.1, Or.inr (Or.inr ⟨v.1, by omega, by omega⟩)⟩)).trans (F6 a b q u), fun a q u => ?_, ?_, tkR.q s6 (fun q u1 u2 => k6 _ _ _ (by omega)), fun q hq => ?_⟩
            · rw [k6 _ _ _ (by omega), f6 _ _ _ (by omega)]; exact r2 a q u
            · rw [bs, e6]; rfl
            · by_cases e : q = k
              · subst e; exact x6
              · rw [k6 _ _ _ (by omega), f6 _ _ _ (by omega)]; exact r5 q (by omega)
        · rintro Z M ⟨I5, rfl, rfl, r1, r2, r3, r4, r5⟩ self
          dsimp only [x_int, x_lng, x_ild, x_lld, x_ald, x_ist, x_ast, x_lst, x_inc, x_ii, x_id, x_i, x_ll, x_ld, x_l, x_cmp, x_i2l, x_l2i, x_if, x_ic, x_dup, x_pop, x_dup2, x_gI, x_gL, x_gR, x_g1, x_g0, x_gP, x_pI, x_pZ, x_pL, x_pP, x_al, x_as, x_all, x_asl, x_alr, x_len, x_cpy, x_m2, x_m1, x_m2l, x_m1l, x_call, x_cv, x_ri, x_rz, x_rl, x_rv, zg, zset, zbef, zlong, zcat, cond_true, cond_false, List.take, List.drop, rv1, rv2, rv3, rv4, rv5, rv6, rv7, sm0, sm1, bl0, bl1, bl2, bl3, bl4, bl5, bl6, bl7, bl8, List.nil_append, List.cons_append, List.length_cons, List.length_nil, Nat.reduceBEq, Nat.reduceAdd, Nat.reduceSub, ta, tb, tn0, tn1, tn2, tn3, tn4, tn5, tn6, tn7, tn8, tn9, tn10, tn11, tn12]
          refine ⟨fun _ => ?_, fun y => absurd y (lt_out (n := 6) rfl)⟩
          rw [r16 r1, n_succ]
          obtain ⟨J7, g7, x7, k7⟩ := zsI_ex I5 L P 12 0 16 (nI (c + 1))
          rw [g7]
          have hk := hK J7
          rw [r3] at hk
          refine ⟨Or.inr rfl, hk (fun a b q u => (k7 a b q (fun v => u ⟨v.2.1, by unfold rrK; omega⟩)).trans (FG r1 a b q u)) (tkR.q r4 (fun q u1 u2 => k7 _ _ _ (by omega))) (fun _ _ => ?_)⟩
          have al : ∀ a q, ¬ (a = 12 ∧ ((4 ≤ q ∧ q ≤ 11) ∨ q = 16)) → ¬ ((a = 55 ∨ a = 56 ∨ a = 57) ∧ q = 6 + c) → ¬ (a = 58 ∧ 36 + 6 * c ≤ q ∧ q < 36 + 6 * c + 6) → J7 a 0 q = I a 0 q := fun a q u1 u2 u3 => by
            rw [k7 a 0 q (by omega)]
            exact r1.lo (fun u => by have u : (a = 12 ∧ (4 ≤ q ∧ q ≤ 11 ∧ ¬ q = 6)) ∨ ((a = 55 ∨ a = 56 ∨ a = 57) ∧ q = 6 + c) ∨ (a = 58 ∧ 36 + 6 * c ≤ q ∧ q < 36 + 6 * c + 6) := u; omega)
          have T0 : (addH Q.1 (fun q => vl B n (i + 1 + q))).1 0 = c + 1 := by rw [← hc]; rfl
          have T1 : ∀ q, ¬ q = 0 → (addH Q.1 (fun q => vl B n (i + 1 + q))).1 q = Q.1.1 q := fun q w => if_neg w
          have Fd : ∀ a x, ¬ (a ≤ 2 ∧ x = c) → ¬ (a = 3 ∧ 6 * c ≤ x ∧ x < 6 * c + 6) → (addH Q.1 (fun q => vl B n (i + 1 + q))).2.1 a x = Q.1.2.1 a x := fun a x w1 w2 => by
            unfold addH
            dsimp only
            rw [hc, if_neg w1, if_neg w2]
          have G : ∀ a, a ≤ 2 → (addH Q.1 (fun q => vl B n (i + 1 + q))).2.1 a c = vl B n (i + 1 + a) := fun a w => by
            unfold addH
            dsimp only
            rw [hc, if_pos ⟨w, rfl⟩]
          refine ⟨⟨?_, ?_, ?_⟩, ⟨?_, ?_, ?_⟩, fun x hx => ?_, fun x hx => ?_, fun x hx => ?_, ⟨?_, ?_, ?_, ?_⟩, fun q hq => ?_, ?_, ?_⟩
          · dsimp only; rw [x7, T0]
          · dsimp only; rw [al _ _ (by decide) (by omega) (by omega), T1 1 (by decide)]; exact q2
          · dsimp only; rw [al _ _ (by decide) (by omega) (by omega), T1 2 (by decide)]; exact q3
          · dsimp only; rw [T0]; omega
          · dsimp only; rw [T1 1 (by decide)]; exact b4
          · dsimp only; rw [T1 2 (by decide)]; exact b10
          · dsimp only at hx ⊢
            rw [T0] at hx
            by_cases e : x = c
            · subst e
              rw [G 0 (by omega), G 1 (by omega), G 2 (by omega)]
              refine ⟨?_, ?_, ?_, fun q hq => ?_⟩
              · rw [k7 _ _ _ (by omega), r2 _ _ (by omega)]; exact n55
              · rw [k7 _ _ _ (by omega), r2 _ _ (by omega)]; exact n56
              · rw [k7 _ _ _ (by omega), r2 _ _ (by omega)]; exact x4
              · rw [k7 _ _ _ (by omega), r5 q hq]
                unfold addH
                dsimp only
                rw [hc, if_neg (show ¬ (3 ≤ 2 ∧ 6 * x + q = x) by omega), if_pos (show 3 = 3 ∧ 6 * x ≤ 6 * x + q ∧ 6 * x + q < 6 * x + 6 by omega), show i + 1 + (3 + (6 * x + q - 6 * x)) = i + 4 + q by omega]
            · obtain ⟨u1, u2, u3, u4⟩ := qh x (by omega)
              rw [al _ _ (by omega) (by omega) (by omega), al _ _ (by omega) (by omega) (by omega), al _ _ (by omega) (by omega) (by omega), Fd 0 x (by omega) (by omega), Fd 1 x (by omega) (by omega), Fd 2 x (by omega) (by omega)]
              refine ⟨u1, u2, u3, fun q hq => ?_⟩
              rw [al _ _ (by omega) (by omega) (by omega), Fd 3 _ (by omega) (by omega)]; exact u4 q hq
          · dsimp only at hx ⊢
            rw [T1 1 (by decide)] at hx
            rw [al _ _ (by omega) (by omega) (by omega), al _ _ (by omega) (by omega) (by omega), al _ _ (by omega) (by omega) (by omega), al _ _ (by omega) (by omega) (by omega), Fd 4 x (by omega) (by omega), Fd 5 x (by omega) (by omega), Fd 6 x (by omega) (by omega), Fd 7 x (by omega) (by omega)]
            exact qw x hx
          · dsimp only at hx ⊢
            rw [T1 2 (by decide)] at hx
            rw [al _ _ (by omega) (by omega) (by omega), al _ _ (by omega) (by omega) (by omega), al _ _ (by omega) (by omega) (by omega), Fd 8 x (by omega) (by omega), Fd 9 x (by omega) (by omega), Fd 10 x (by omega) (by omega)]
            exact qr x hx
          · dsimp only; rw [al _ _ (by omega) (by omega) (by omega), Fd 11 0 (by omega) (by omega)]; exact qo.1
          · dsimp only; rw [al _ _ (by omega) (by omega) (by omega), Fd 12 0 (by omega) (by omega)]; exact qo.2.1
          · dsimp only; rw [al _ _ (by decide) (by omega) (by omega), Fd 13 0 (by omega) (by omega)]; exact qo.2.2.1
          · dsimp only; rw [al _ _ (by decide) (by omega) (by omega), Fd 13 0 (by omega) (by omega)]; exact qo.2.2.2
          · dsimp only
            rw [Fd 13 0 (by omega) (by omega)]
            exact (ql q hq).f hq (fun a q u => al _ _ (by omega) (by omega) (by omega)) (fun a q u v => al _ _ (by omega) (by omega) (by omega))
          · dsimp only; rw [al _ _ (by omega) (by omega) (by omega)]; exact qf.1
          · dsimp only; rw [al _ _ (by omega) (by omega) (by omega)]; exact qf.2
