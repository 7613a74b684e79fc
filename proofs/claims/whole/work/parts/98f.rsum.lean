def sK (a0 a q : Nat) : Prop := (a = 12 ∧ ((4 ≤ q ∧ q ≤ 11 ∧ ¬ q = 6) ∨ q = 19 ∨ (41 ≤ q ∧ q ≤ 46))) ∨ ((69 ≤ a ∧ a ≤ 71) ∧ 64 + a0 ≤ q) ∨ a = 72 ∨ a = 73
theorem sK_G {I I' : zI} {a : Nat} (h : ony (sK a) I I') : frG I I' := h.mono (fun b q u => by unfold rrK; unfold sK at u; omega)
theorem bK_S {I I' : zI} {a : Nat} (h : ony (bK a) I I') : ony (sK a) I I' := h.mono (fun b q u => by unfold sK; unfold bK at u; omega)
/-- a sum under way -/
def XR (B : Nat → Nat) (n a : Nat) (X : aX) (I : zI) : Prop := tkR B n X.1 I ∧ I 12 0 43 = nI (opn X.2.2.1) ∧ I 12 0 44 = nI X.2.2.2.2.2 ∧ I 12 0 45 = bI X.2.2.2.1 ∧ I 12 0 46 = bI X.2.2.2.2.1 ∧ ∃ hs, XB I a X.2.1 X.2.2.1 hs ∧ hs.length = nbW X.2.2.1 + (if X.2.2.2.1 = true then 0 else 1) ∧ (X.2.2.2.1 = false → hdO a X.2.1 hs)
theorem XB.q {I I' : zI} {a : Nat} {cs : List Int32} {ws hs : List Nat} (h : XB I a cs ws hs) (e1 : ∀ c, c = 41 ∨ c = 42 ∨ c = 19 → I' 12 0 c = I 12 0 c) (e2 : ∀ c, c < ws.length → I' 72 0 c = I 72 0 c) (e3 : ∀ c, c < hs.length → I' 73 0 c = I 73 0 c) (e4 : ∀ b c, 69 ≤ b ∧ b ≤ 71 → c < 64 + (a + cs.length) → I' b 0 c = I b 0 c) : XB I' a cs ws hs := by
  obtain ⟨b1, b2, b3, b4, b5, b6⟩ := h
  exact ⟨(e1 _ (by decide)).trans b1, b2.q e2, (e1 _ (by decide)).trans b3, hR.q b4 e3, (e1 _ (by decide)).trans b5, RKp_frb (I := vk I) (I' := vk I') _ _ _ (fun b c u1 u2 => e4 b (64 + c) (by omega) (by omega)) b6⟩
theorem p_isCounted {K : zQ} {I : zI} {L : zJ} {P : zP} {B : Nat → Nat} {n i c : Nat} (hc : c ≤ 64) (h : tkR B n i I) (h44 : I 12 0 44 = nI c) (h1 : c < 64 → ∀ I' : zI, ony (fun a q => a = 12 ∧ q = 44) I I' → I' 12 0 44 = nI (c + 1) → K [.inl 1] (I', L, P)) (h0 : c = 64 → ∀ I' : zI, ony (fun a c => a = 12 ∧ (c = 4 ∨ c = 5)) I I' → stR B n (.inr (2, i)) I' → K [.inl 0] (I', L, P)) : mX12_isCounted K [refR] (I, L, P) := by
  show bX12_isCounted_0 K [some (.inr (.inr (12,0)))] [] (I, L, P)
  unfold bX12_isCounted_0
  dsimp only [x_int, x_lng, x_ild, x_lld, x_ald, x_ist, x_ast, x_lst, x_inc, x_ii, x_id, x_i, x_ll, x_ld, x_l, x_cmp, x_i2l, x_l2i, x_if, x_ic, x_dup, x_pop, x_dup2, x_gI, x_gL, x_gR, x_g1, x_g0, x_gP, x_pI, x_pZ, x_pL, x_pP, x_al, x_as, x_all, x_asl, x_alr, x_len, x_cpy, x_m2, x_m1, x_m2l, x_m1l, x_call, x_cv, x_ri, x_rz, x_rl, x_rv, zg, zset, zbef, zlong, zcat, cond_true, cond_false, List.take, List.drop, rv1, rv2, rv3, rv4, rv5, rv6, rv7, sm0, sm1, bl0, bl1, bl2, bl3, bl4, bl5, bl6, bl7, bl8, List.nil_append, List.cons_append, List.length_cons, List.length_nil, Nat.reduceBEq, Nat.reduceAdd, Nat.reduceSub, ta, tb, tn0, tn1, tn2, tn3, tn4, tn5, tn6, tn7, tn8, tn9, tn10, tn11, tn12]
  rw [h44]
  refine ⟨fun z => p_wrong (e := 2) h (fun I1 f1 s1 => ?_), fun z => ?_⟩
  · have z : nI c = nI 64 := z
    rw [n_eq (by omega) (by omega)] at z
    exact ⟨Or.inl rfl, h0 z I1 f1 s1⟩
  · have z : ¬ nI c = nI 64 := z
    rw [n_eq (by omega) (by omega)] at z
    rw [n_succ]
    obtain ⟨J1, g1, x1, k1⟩ := zsI_ex I L P 12 0 44 (nI (c + 1))
    rw [g1]
    exact ⟨Or.inr rfl, h1 (by omega) J1 (fun a b q u => k1 a b q (fun v => u ⟨v.2.1, v.1, v.2.2⟩)) x1⟩
theorem p_waitsFor {K : zQ} {I : zI} {L : zJ} {P : zP} {w : Nat} {v : Int32} (hw : w < 96) (h41 : I 12 0 41 = nI w) (hK : ∀ I' : zI, ony (fun a q => (a = 12 ∧ q = 41) ∨ (a = 72 ∧ q = w)) I I' → I' 72 0 w = v → I' 12 0 41 = nI (w + 1) → K [] (I', L, P)) : mX12_waitsFor K [refR, .inl v] (I, L, P) := by
  show bX12_waitsFor_0 K [some (.inr (.inr (12,0))), some (.inl v)] [] (I, L, P)
  unfold bX12_waitsFor_0
  dsimp only [x_int, x_lng, x_ild, x_lld, x_ald, x_ist, x_ast, x_lst, x_inc, x_ii, x_id, x_i, x_ll, x_ld, x_l, x_cmp, x_i2l, x_l2i, x_if, x_ic, x_dup, x_pop, x_dup2, x_gI, x_gL, x_gR, x_g1, x_g0, x_gP, x_pI, x_pZ, x_pL, x_pP, x_al, x_as, x_all, x_asl, x_alr, x_len, x_cpy, x_m2, x_m1, x_m2l, x_m1l, x_call, x_cv, x_ri, x_rz, x_rl, x_rv, zg, zset, zbef, zlong, zcat, cond_true, cond_false, List.take, List.drop, rv1, rv2, rv3, rv4, rv5, rv6, rv7, sm0, sm1, bl0, bl1, bl2, bl3, bl4, bl5, bl6, bl7, bl8, List.nil_append, List.cons_append, List.length_cons, List.length_nil, Nat.reduceBEq, Nat.reduceAdd, Nat.reduceSub, ta, tb, tn0, tn1, tn2, tn3, tn4, tn5, tn6, tn7, tn8, tn9, tn10, tn11, tn12, zk_72, zl_72, cond_true]
  rw [h41, n_cl (n := w) (by omega)]
  refine ⟨n_zin (by show w < 96; omega) (by decide), ?_⟩
  obtain ⟨J1, g1, x1, k1⟩ := zsI_ex I L P 72 0 w v
  rw [g1]
  dsimp only
  rw [k1 12 0 41 (by omega), h41, n_succ]
  obtain ⟨J2, g2, x2, k2⟩ := zsI_ex J1 L P 12 0 41 (nI (w + 1))
  rw [g2]
  exact hK J2 (fun a b q u => (k2 a b q (fun v => u ⟨v.2.1, Or.inl ⟨v.1, v.2.2⟩⟩)).trans (k1 a b q (fun v => u ⟨v.2.1, Or.inr ⟨v.1, v.2.2⟩⟩))) ((k2 _ _ _ (by omega)).trans x1) x2
theorem p_nameMet {K : zQ} {I : zI} {L : zJ} {P : zP} {B : Nat → Nat} {n i : Nat} (h : tkR B n i I) (h1 : 12 ≤ kd B n i → kd B n i ≤ 18 → K [.inl (nI (kd B n i - 12))] (I, L, P)) (h0 : ¬ (12 ≤ kd B n i ∧ kd B n i ≤ 18) → K [.inl (-1)] (I, L, P)) : mX12_nameMet K [refR] (I, L, P) := by
  have e := RTk_key h.k
  have w := (RTk_which h.k).1
  have s1 : ∀ k, k < 19 → (sgm k < 12 ↔ k < 12) ∧ (12 ≤ k → nI (sgm k) - 12 = nI (k - 12)) ∧ sgm k < 19 := by decide
  show bX12_nameMet_0 K [some (.inr (.inr (12,0)))] [] (I, L, P)
  unfold bX12_nameMet_0
  dsimp only [x_int, x_lng, x_ild, x_lld, x_ald, x_ist, x_ast, x_lst, x_inc, x_ii, x_id, x_i, x_ll, x_ld, x_l, x_cmp, x_i2l, x_l2i, x_if, x_ic, x_dup, x_pop, x_dup2, x_gI, x_gL, x_gR, x_g1, x_g0, x_gP, x_pI, x_pZ, x_pL, x_pP, x_al, x_as, x_all, x_asl, x_alr, x_len, x_cpy, x_m2, x_m1, x_m2l, x_m1l, x_call, x_cv, x_ri, x_rz, x_rl, x_rv, zg, zset, zbef, zlong, zcat, cond_true, cond_false, List.take, List.drop, rv1, rv2, rv3, rv4, rv5, rv6, rv7, sm0, sm1, bl0, bl1, bl2, bl3, bl4, bl5, bl6, bl7, bl8, List.nil_append, List.cons_append, List.length_cons, List.length_nil, Nat.reduceBEq, Nat.reduceAdd, Nat.reduceSub, ta, tb, tn0, tn1, tn2, tn3, tn4, tn5, tn6, tn7, tn8, tn9, tn10, tn11, tn12, bX12_nameMet_27, bX12_nameMet_28]
  refine ⟨fun z => ⟨fun y => h0 (fun u => ?_), fun y => ?_⟩, fun z => h0 (fun u => z (e.mpr (by omega)))⟩
  · rw [w (by omega)] at y
    have y : nI (sgm (kd B n i)) < nI 12 := y
    have := s1 (kd B n i) (by omega)
    rw [n_lt (by omega) (by omega)] at y
    omega
  · have k18 := e.mp z
    have s2 := s1 (kd B n i) (by omega)
    rw [w k18] at y
    have y : ¬ nI (sgm (kd B n i)) < nI 12 := y
    rw [n_lt (by omega) (by omega)] at y
    rw [w k18, s2.2.1 (by omega)]
    exact h1 (by omega) k18
/-- what a step gives -/
def rout (B : Nat → Nat) (n a i : Nat) (I' : zI) (b : Int32) : (Nat × Nat) ⊕ ((Nat × List Int32 × Nat) ⊕ aX) → Prop
  | .inl e => b = 0 ∧ stR B n (.inr e) I'
  | .inr (.inl _) => b = 0 ∧ stR B n (.inr (1, i)) I'
  | .inr (.inr X') => b = 1 ∧ XR B n a X' I'
theorem nI_g0 {k : Nat} (h : k < 100) : (0 : Int32) ≤ nI k := by show nI 0 ≤ nI k; rw [n_le (by omega) (by omega)]; omega
theorem p_leafRead {K : zQ} {I : zI} {L : zJ} {P : zP} {B : Nat → Nat} {n a i cnt : Nat} {cs : List Int32} {ws : List Nat} {mn : Bool} (hp : RTp B n I) (hX : XR B n a (i, cs, ws, true, mn, cnt) I) (hI : XI a (i, cs, ws, true, mn, cnt)) (hK : ∀ (I' : zI) (b : Int32), ony (sK a) I I' → rout B n a i I' b (xst B n (i, cs, ws, true, mn, cnt)) → K [.inl b] (I', L, P)) : mX12_leafRead K [refR] (I, L, P) := by
  have l72 := hI.l72
  obtain ⟨-, -, i3, i4, i5, i6⟩ := hI
  obtain ⟨x1, x2, x3, x4, x5, hs, hB, hl, -⟩ := hX
  have hB0 := hB
  obtain ⟨b1, b2, b3, b4, b5, b6⟩ := hB
  dsimp only at l72 i3 i4 i5 i6 x1 x2 x3 x4 x5 hB0 b1 b2 b3 b4 b5 b6 hl
  have ol := opn_le ws
  have nb := nbW_le ws
  have hl0 : hs.length = nbW ws := hl
  have bad : ∀ (I1 : zI) (e : Nat), ony (fun a c => a = 12 ∧ (c = 4 ∨ c = 5)) I I1 → stR B n (.inr (e, i)) I1 → xst B n (i, cs, ws, true, mn, cnt) = .inl (e, i) → K [.inl 0] (I1, L, P) := fun I1 e f1 s1 xe => hK I1 0 (f1.mono (fun b c u => by unfold sK; omega)) (by rw [xe]; exact ⟨rfl, s1⟩)
  have xs : xst B n (i, cs, ws, true, mn, cnt) = (if kd B n i = 11 ∧ mn = true then (if cnt = 64 then .inl (2, i) else .inr (.inr (i + 1, cs, 11 :: ws, true, mn, cnt + 1)))
      else if kd B n i = 22 then (if opn ws = 8 then .inl (2, i) else .inr (.inr (i + 1, cs, 22 :: ws, true, true, cnt)))
      else if 12 ≤ kd B n i ∧ kd B n i ≤ 18 then (if cnt = 64 then .inl (2, i) else .inr (.inr (i + 1, cs ++ [-(nI (kd B n i))], ws, false, mn, cnt + 1)))
      else if kd B n i = 20 then (if vl B n i ≤ nI 9999 then (if cnt = 64 then .inl (2, i) else .inr (.inr (i + 1, cs ++ [vl B n i], ws, false, mn, cnt + 1))) else .inl (2, i))
      else .inl (1, i)) := rfl
  show bX12_leafRead_0 K [some (.inr (.inr (12,0))), none] [] (I, L, P)
  unfold bX12_leafRead_0
  dsimp only [x_int, x_lng, x_ild, x_lld, x_ald, x_ist, x_ast, x_lst, x_inc, x_ii, x_id, x_i, x_ll, x_ld, x_l, x_cmp, x_i2l, x_l2i, x_if, x_ic, x_dup, x_pop, x_dup2, x_gI, x_gL, x_gR, x_g1, x_g0, x_gP, x_pI, x_pZ, x_pL, x_pP, x_al, x_as, x_all, x_asl, x_alr, x_len, x_cpy, x_m2, x_m1, x_m2l, x_m1l, x_call, x_cv, x_ri, x_rz, x_rl, x_rv, zg, zset, zbef, zlong, zcat, cond_true, cond_false, List.take, List.drop, rv1, rv2, rv3, rv4, rv5, rv6, rv7, sm0, sm1, bl0, bl1, bl2, bl3, bl4, bl5, bl6, bl7, bl8, List.nil_append, List.cons_append, List.length_cons, List.length_nil, Nat.reduceBEq, Nat.reduceAdd, Nat.reduceSub, ta, tb, tn0, tn1, tn2, tn3, tn4, tn5, tn6, tn7, tn8, tn9, tn10, tn11, tn12]
  -- a name or a number
  have lf : ¬ (kd B n i = 11 ∧ mn = true) → ¬ kd B n i = 22 → ∀ z1 : Option zV, bX12_leafRead_86 K [some refR, z1] [] (I, L, P) := fun c1 c2 z1 => by
    rw [if_neg c1, if_neg c2] at xs
    unfold bX12_leafRead_86
    dsimp only [x_int, x_lng, x_ild, x_lld, x_ald, x_ist, x_ast, x_lst, x_inc, x_ii, x_id, x_i, x_ll, x_ld, x_l, x_cmp, x_i2l, x_l2i, x_if, x_ic, x_dup, x_pop, x_dup2, x_gI, x_gL, x_gR, x_g1, x_g0, x_gP, x_pI, x_pZ, x_pL, x_pP, x_al, x_as, x_all, x_asl, x_alr, x_len, x_cpy, x_m2, x_m1, x_m2l, x_m1l, x_call, x_cv, x_ri, x_rz, x_rl, x_rv, zg, zset, zbef, zlong, zcat, cond_true, cond_false, List.take, List.drop, rv1, rv2, rv3, rv4, rv5, rv6, rv7, sm0, sm1, bl0, bl1, bl2, bl3, bl4, bl5, bl6, bl7, bl8, List.nil_append, List.cons_append, List.length_cons, List.length_nil, Nat.reduceBEq, Nat.reduceAdd, Nat.reduceSub, ta, tb, tn0, tn1, tn2, tn3, tn4, tn5, tn6, tn7, tn8, tn9, tn10, tn11, tn12]
    refine p_nameMet x1 (fun c3 c4 => ?_) (fun c3 => ?_)
    · rw [if_pos ⟨c3, c4⟩] at xs
      dsimp only [x_int, x_lng, x_ild, x_lld, x_ald, x_ist, x_ast, x_lst, x_inc, x_ii, x_id, x_i, x_ll, x_ld, x_l, x_cmp, x_i2l, x_l2i, x_if, x_ic, x_dup, x_pop, x_dup2, x_gI, x_gL, x_gR, x_g1, x_g0, x_gP, x_pI, x_pZ, x_pL, x_pP, x_al, x_as, x_all, x_asl, x_alr, x_len, x_cpy, x_m2, x_m1, x_m2l, x_m1l, x_call, x_cv, x_ri, x_rz, x_rl, x_rv, zg, zset, zbef, zlong, zcat, cond_true, cond_false, List.take, List.drop, rv1, rv2, rv3, rv4, rv5, rv6, rv7, sm0, sm1, bl0, bl1, bl2, bl3, bl4, bl5, bl6, bl7, bl8, List.nil_append, List.cons_append, List.length_cons, List.length_nil, Nat.reduceBEq, Nat.reduceAdd, Nat.reduceSub, ta, tb, tn0, tn1, tn2, tn3, tn4, tn5, tn6, tn7, tn8, tn9, tn10, tn11, tn12, bX12_leafRead_109, bX12_leafRead_129]
      have ge := nI_g0 (k := kd B n i - 12) (by omega)
      refine ⟨fun _ => ⟨fun _ => p_isCounted i5 x1 x3 (fun c5 I2 f2 s2 => ?_) (fun c5 I2 f2 s2 => ?_), fun y => absurd ge y⟩, fun y => absurd ge y⟩
      rotate_left
      · dsimp only [x_int, x_lng, x_ild, x_lld, x_ald, x_ist, x_ast, x_lst, x_inc, x_ii, x_id, x_i, x_ll, x_ld, x_l, x_cmp, x_i2l, x_l2i, x_if, x_ic, x_dup, x_pop, x_dup2, x_gI, x_gL, x_gR, x_g1, x_g0, x_gP, x_pI, x_pZ, x_pL, x_pP, x_al, x_as, x_all, x_asl, x_alr, x_len, x_cpy, x_m2, x_m1, x_m2l, x_m1l, x_call, x_cv, x_ri, x_rz, x_rl, x_rv, zg, zset, zbef, zlong, zcat, cond_true, cond_false, List.take, List.drop, rv1, rv2, rv3, rv4, rv5, rv6, rv7, sm0, sm1, bl0, bl1, bl2, bl3, bl4, bl5, bl6, bl7, bl8, List.nil_append, List.cons_append, List.length_cons, List.length_nil, Nat.reduceBEq, Nat.reduceAdd, Nat.reduceSub, ta, tb, tn0, tn1, tn2, tn3, tn4, tn5, tn6, tn7, tn8, tn9, tn10, tn11, tn12]
        rw [if_pos c5] at xs
        exact ⟨fun _ => ⟨Or.inl rfl, bad I2 2 f2 s2 xs⟩, fun y => absurd rfl y⟩
      rw [if_neg (by omega)] at xs
      have xe := xs
      dsimp only [x_int, x_lng, x_ild, x_lld, x_ald, x_ist, x_ast, x_lst, x_inc, x_ii, x_id, x_i, x_ll, x_ld, x_l, x_cmp, x_i2l, x_l2i, x_if, x_ic, x_dup, x_pop, x_dup2, x_gI, x_gL, x_gR, x_g1, x_g0, x_gP, x_pI, x_pZ, x_pL, x_pP, x_al, x_as, x_all, x_asl, x_alr, x_len, x_cpy, x_m2, x_m1, x_m2l, x_m1l, x_call, x_cv, x_ri, x_rz, x_rl, x_rv, zg, zset, zbef, zlong, zcat, cond_true, cond_false, List.take, List.drop, rv1, rv2, rv3, rv4, rv5, rv6, rv7, sm0, sm1, bl0, bl1, bl2, bl3, bl4, bl5, bl6, bl7, bl8, List.nil_append, List.cons_append, List.length_cons, List.length_nil, Nat.reduceBEq, Nat.reduceAdd, Nat.reduceSub, ta, tb, tn0, tn1, tn2, tn3, tn4, tn5, tn6, tn7, tn8, tn9, tn10, tn11, tn12, bX12_leafRead_148, bX12_leafRead_160]
      refine ⟨fun y => absurd y (show ¬ (1 : Int32) = 0 by decide), fun _ => ⟨fun y => absurd ge (Int32.not_le.mpr y), fun _ => ⟨fun y => absurd ge (Int32.not_le.mpr y), fun _ => ?_⟩⟩⟩
      refine p_grown (p := a + cs.length) (m := hs.length) (by omega) (by omega) (by rw [f2 _ _ _ (by decide)]; exact b5) (by rw [f2 _ _ _ (by decide)]; exact b3) (fun I3 f3 v1 v2 v3 v4 v5 v6 => ?_)
      dsimp only [x_int, x_lng, x_ild, x_lld, x_ald, x_ist, x_ast, x_lst, x_inc, x_ii, x_id, x_i, x_ll, x_ld, x_l, x_cmp, x_i2l, x_l2i, x_if, x_ic, x_dup, x_pop, x_dup2, x_gI, x_gL, x_gR, x_g1, x_g0, x_gP, x_pI, x_pZ, x_pL, x_pP, x_al, x_as, x_all, x_asl, x_alr, x_len, x_cpy, x_m2, x_m1, x_m2l, x_m1l, x_call, x_cv, x_ri, x_rz, x_rl, x_rv, zg, zset, zbef, zlong, zcat, cond_true, cond_false, List.take, List.drop, rv1, rv2, rv3, rv4, rv5, rv6, rv7, sm0, sm1, bl0, bl1, bl2, bl3, bl4, bl5, bl6, bl7, bl8, List.nil_append, List.cons_append, List.length_cons, List.length_nil, Nat.reduceBEq, Nat.reduceAdd, Nat.reduceSub, ta, tb, tn0, tn1, tn2, tn3, tn4, tn5, tn6, tn7, tn8, tn9, tn10, tn11, tn12]
      obtain ⟨J4, g4, x4, k4⟩ := zsI_ex I3 L P 12 0 45 (0 : Int32)
      rw [g4]
      refine ⟨Or.inl rfl, ?_⟩
      have fa : ony (sK a) I J4 := fun b c d w => by
        rw [k4 b c d (fun v => w ⟨v.2.1, by unfold sK; omega⟩), f3 b c d (fun v => w ⟨v.1, by unfold sK; omega⟩), f2 b c d (fun v => w ⟨v.1, by unfold sK; omega⟩)]
      refine p_next (hp.g (sK_G fa)) (x1.q (fun q u1 u2 => by rw [k4 _ _ _ (by omega), f3 _ _ _ (by omega), f2 _ _ _ (by omega)])) (fun I5 f5 t5 => ?_)
      dsimp only [x_int, x_lng, x_ild, x_lld, x_ald, x_ist, x_ast, x_lst, x_inc, x_ii, x_id, x_i, x_ll, x_ld, x_l, x_cmp, x_i2l, x_l2i, x_if, x_ic, x_dup, x_pop, x_dup2, x_gI, x_gL, x_gR, x_g1, x_g0, x_gP, x_pI, x_pZ, x_pL, x_pP, x_al, x_as, x_all, x_asl, x_alr, x_len, x_cpy, x_m2, x_m1, x_m2l, x_m1l, x_call, x_cv, x_ri, x_rz, x_rl, x_rv, zg, zset, zbef, zlong, zcat, cond_true, cond_false, List.take, List.drop, rv1, rv2, rv3, rv4, rv5, rv6, rv7, sm0, sm1, bl0, bl1, bl2, bl3, bl4, bl5, bl6, bl7, bl8, List.nil_append, List.cons_append, List.length_cons, List.length_nil, Nat.reduceBEq, Nat.reduceAdd, Nat.reduceSub, ta, tb, tn0, tn1, tn2, tn3, tn4, tn5, tn6, tn7, tn8, tn9, tn10, tn11, tn12]
      refine ⟨Or.inr rfl, hK I5 1 (fa.tr (fun b c d w => f5 b c d (fun v => w ⟨v.2.1, by unfold sK; omega⟩))) ?_⟩
      rw [xe]
      refine ⟨rfl, t5, ?_, ?_, ?_, ?_, (a + cs.length) :: hs, ⟨?_, ?_, ?_, ⟨?_, ?_⟩, ?_, ?_⟩, ?_, fun _ => ⟨a + cs.length, hs, rfl, ?_⟩⟩
      · dsimp only; rw [f5 _ _ _ (by decide), k4 _ _ _ (by decide), f3 _ _ _ (by omega), f2 _ _ _ (by decide)]; exact x2
      · dsimp only; rw [f5 _ _ _ (by decide), k4 _ _ _ (by decide), f3 _ _ _ (by omega)]; exact s2
      · dsimp only; rw [f5 _ _ _ (by decide)]; exact x4
      · dsimp only; rw [f5 _ _ _ (by decide), k4 _ _ _ (by decide), f3 _ _ _ (by omega), f2 _ _ _ (by decide)]; exact x5
      · rw [f5 _ _ _ (by decide), k4 _ _ _ (by decide), f3 _ _ _ (by omega), f2 _ _ _ (by decide)]; exact b1
      · exact b2.q (fun c hc => by rw [f5 _ _ _ (by omega), k4 _ _ _ (by omega), f3 _ _ _ (by omega), f2 _ _ _ (by omega)])
      · rw [f5 _ _ _ (by decide), k4 _ _ _ (by decide)]; exact v5
      · rw [f5 _ _ _ (by omega), k4 _ _ _ (by omega)]; exact v4
      · exact hR.q b4 (fun c hc => by rw [f5 _ _ _ (by omega), k4 _ _ _ (by omega), f3 _ _ _ (by omega), f2 _ _ _ (by omega)])
      · rw [f5 _ _ _ (by decide), k4 _ _ _ (by decide), v6, List.length_append, List.length_singleton, Nat.add_assoc]
      · refine RKp_snoc (RKp_frb (I := vk I) (I' := vk I5) _ _ _ (fun b c u1 u2 => ?_) b6) (by omega) ?_
        · show I5 b 0 (64 + c) = I b 0 (64 + c)
          rw [f5 _ _ _ (by omega), k4 _ _ _ (by omega), f3 _ _ _ (by omega), f2 _ _ _ (by omega)]
        · have w1 : vk I5 69 0 (a + cs.length) = 1 := by show I5 69 0 (64 + _) = _; rw [f5 _ _ _ (by omega), k4 _ _ _ (by omega)]; exact v1
          have w2 : vk I5 70 0 (a + cs.length) = nI (kd B n i - 12) := by show I5 70 0 (64 + _) = _; rw [f5 _ _ _ (by omega), k4 _ _ _ (by omega)]; exact v2
          obtain ⟨n1, n2⟩ := ng_k (k := kd B n i) (by omega) (by omega)
          refine Or.inr (Or.inl ⟨n1, ?_, ?_, w1, ?_, rfl⟩)
          · rw [n2]; show ¬ nI _ < nI 12; rw [n_lt (by omega) (by omega)]; omega
          · rw [n2]; show ¬ nI 18 < nI _; rw [n_lt (by omega) (by omega)]; omega
          · rw [n2, w2]
            have : ∀ k, k < 19 → 12 ≤ k → nI (k - 12) = nI k - 12 := by decide
            exact this _ (by omega) c3
      · show hs.length + 1 = nbW ws + 1
        rw [hl]; rfl
      · rw [List.length_append, List.length_singleton, Nat.add_assoc]
    · rw [if_neg c3] at xs
      have en := RTk_num x1.k
      dsimp only [x_int, x_lng, x_ild, x_lld, x_ald, x_ist, x_ast, x_lst, x_inc, x_ii, x_id, x_i, x_ll, x_ld, x_l, x_cmp, x_i2l, x_l2i, x_if, x_ic, x_dup, x_pop, x_dup2, x_gI, x_gL, x_gR, x_g1, x_g0, x_gP, x_pI, x_pZ, x_pL, x_pP, x_al, x_as, x_all, x_asl, x_alr, x_len, x_cpy, x_m2, x_m1, x_m2l, x_m1l, x_call, x_cv, x_ri, x_rz, x_rl, x_rv, zg, zset, zbef, zlong, zcat, cond_true, cond_false, List.take, List.drop, rv1, rv2, rv3, rv4, rv5, rv6, rv7, sm0, sm1, bl0, bl1, bl2, bl3, bl4, bl5, bl6, bl7, bl8, List.nil_append, List.cons_append, List.length_cons, List.length_nil, Nat.reduceBEq, Nat.reduceAdd, Nat.reduceSub, ta, tb, tn0, tn1, tn2, tn3, tn4, tn5, tn6, tn7, tn8, tn9, tn10, tn11, tn12, bX12_leafRead_109, bX12_leafRead_129]
      refine ⟨fun y => absurd y (by decide), fun _ => ⟨fun k3 => ⟨fun y => absurd y (by decide), fun _ => ?_⟩, fun k3 => p_wrong (e := 1) x1 (fun I1 f1 s1 => ⟨Or.inl rfl, bad I1 1 f1 s1 (by rw [xs, if_neg (fun u => k3 (en.mpr u))])⟩)⟩⟩
      have k20 := en.mp k3
      rw [if_pos k20] at xs
      obtain ⟨va, vb, e1, e2, rel, r1, r2⟩ := (RTk_which x1.k).2.2.1 k20
      rw [e2]
      refine ⟨fun y => ?_, fun y => p_wrong (e := 2) x1 (fun I1 f1 s1 => ⟨Or.inl rfl, bad I1 2 f1 s1 ?_⟩)⟩
      rotate_left
      · have y : ¬ nI vb ≤ nI 9999 := y
        rw [n_le (by omega) (by omega)] at y
        rw [xs, if_neg]
        rw [e1, n_le (by omega) (by omega)]; omega
      have y : nI vb ≤ nI 9999 := y
      rw [n_le (by omega) (by omega)] at y
      rw [if_pos (by rw [e1, n_le (by omega) (by omega)]; omega)] at xs
      refine p_isCounted i5 x1 x3 (fun c5 I2 f2 s2 => ?_) (fun c5 I2 f2 s2 => ?_)
      rotate_left
      · dsimp only [x_int, x_lng, x_ild, x_lld, x_ald, x_ist, x_ast, x_lst, x_inc, x_ii, x_id, x_i, x_ll, x_ld, x_l, x_cmp, x_i2l, x_l2i, x_if, x_ic, x_dup, x_pop, x_dup2, x_gI, x_gL, x_gR, x_g1, x_g0, x_gP, x_pI, x_pZ, x_pL, x_pP, x_al, x_as, x_all, x_asl, x_alr, x_len, x_cpy, x_m2, x_m1, x_m2l, x_m1l, x_call, x_cv, x_ri, x_rz, x_rl, x_rv, zg, zset, zbef, zlong, zcat, cond_true, cond_false, List.take, List.drop, rv1, rv2, rv3, rv4, rv5, rv6, rv7, sm0, sm1, bl0, bl1, bl2, bl3, bl4, bl5, bl6, bl7, bl8, List.nil_append, List.cons_append, List.length_cons, List.length_nil, Nat.reduceBEq, Nat.reduceAdd, Nat.reduceSub, ta, tb, tn0, tn1, tn2, tn3, tn4, tn5, tn6, tn7, tn8, tn9, tn10, tn11, tn12]
        rw [if_pos c5] at xs
        exact ⟨fun _ => ⟨Or.inl rfl, bad I2 2 f2 s2 xs⟩, fun y => absurd rfl y⟩
      rw [if_neg (by omega)] at xs
      have xe := xs
      dsimp only [x_int, x_lng, x_ild, x_lld, x_ald, x_ist, x_ast, x_lst, x_inc, x_ii, x_id, x_i, x_ll, x_ld, x_l, x_cmp, x_i2l, x_l2i, x_if, x_ic, x_dup, x_pop, x_dup2, x_gI, x_gL, x_gR, x_g1, x_g0, x_gP, x_pI, x_pZ, x_pL, x_pP, x_al, x_as, x_all, x_asl, x_alr, x_len, x_cpy, x_m2, x_m1, x_m2l, x_m1l, x_call, x_cv, x_ri, x_rz, x_rl, x_rv, zg, zset, zbef, zlong, zcat, cond_true, cond_false, List.take, List.drop, rv1, rv2, rv3, rv4, rv5, rv6, rv7, sm0, sm1, bl0, bl1, bl2, bl3, bl4, bl5, bl6, bl7, bl8, List.nil_append, List.cons_append, List.length_cons, List.length_nil, Nat.reduceBEq, Nat.reduceAdd, Nat.reduceSub, ta, tb, tn0, tn1, tn2, tn3, tn4, tn5, tn6, tn7, tn8, tn9, tn10, tn11, tn12, bX12_leafRead_148, bX12_leafRead_160]
      refine ⟨fun y => absurd y (show ¬ (1 : Int32) = 0 by decide), fun _ => ⟨fun _ => ⟨fun _ => ?_, fun y => absurd (show (-1 : Int32) < 0 by decide) y⟩, fun y => absurd (show (-1 : Int32) < 0 by decide) y⟩⟩
      rw [f2 12 0 9 (by decide), e2]
      refine p_grown (p := a + cs.length) (m := hs.length) (by omega) (by omega) (by rw [f2 _ _ _ (by decide)]; exact b5) (by rw [f2 _ _ _ (by decide)]; exact b3) (fun I3 f3 v1 v2 v3 v4 v5 v6 => ?_)
      dsimp only [x_int, x_lng, x_ild, x_lld, x_ald, x_ist, x_ast, x_lst, x_inc, x_ii, x_id, x_i, x_ll, x_ld, x_l, x_cmp, x_i2l, x_l2i, x_if, x_ic, x_dup, x_pop, x_dup2, x_gI, x_gL, x_gR, x_g1, x_g0, x_gP, x_pI, x_pZ, x_pL, x_pP, x_al, x_as, x_all, x_asl, x_alr, x_len, x_cpy, x_m2, x_m1, x_m2l, x_m1l, x_call, x_cv, x_ri, x_rz, x_rl, x_rv, zg, zset, zbef, zlong, zcat, cond_true, cond_false, List.take, List.drop, rv1, rv2, rv3, rv4, rv5, rv6, rv7, sm0, sm1, bl0, bl1, bl2, bl3, bl4, bl5, bl6, bl7, bl8, List.nil_append, List.cons_append, List.length_cons, List.length_nil, Nat.reduceBEq, Nat.reduceAdd, Nat.reduceSub, ta, tb, tn0, tn1, tn2, tn3, tn4, tn5, tn6, tn7, tn8, tn9, tn10, tn11, tn12]
      obtain ⟨J4, g4, x4, k4⟩ := zsI_ex I3 L P 12 0 45 (0 : Int32)
      rw [g4]
      refine ⟨Or.inl rfl, ?_⟩
      have fa : ony (sK a) I J4 := fun b c d w => by
        rw [k4 b c d (fun v => w ⟨v.2.1, by unfold sK; omega⟩), f3 b c d (fun v => w ⟨v.1, by unfold sK; omega⟩), f2 b c d (fun v => w ⟨v.1, by unfold sK; omega⟩)]
      refine p_next (hp.g (sK_G fa)) (x1.q (fun q u1 u2 => by rw [k4 _ _ _ (by omega), f3 _ _ _ (by omega), f2 _ _ _ (by omega)])) (fun I5 f5 t5 => ?_)
      dsimp only [x_int, x_lng, x_ild, x_lld, x_ald, x_ist, x_ast, x_lst, x_inc, x_ii, x_id, x_i, x_ll, x_ld, x_l, x_cmp, x_i2l, x_l2i, x_if, x_ic, x_dup, x_pop, x_dup2, x_gI, x_gL, x_gR, x_g1, x_g0, x_gP, x_pI, x_pZ, x_pL, x_pP, x_al, x_as, x_all, x_asl, x_alr, x_len, x_cpy, x_m2, x_m1, x_m2l, x_m1l, x_call, x_cv, x_ri, x_rz, x_rl, x_rv, zg, zset, zbef, zlong, zcat, cond_true, cond_false, List.take, List.drop, rv1, rv2, rv3, rv4, rv5, rv6, rv7, sm0, sm1, bl0, bl1, bl2, bl3, bl4, bl5, bl6, bl7, bl8, List.nil_append, List.cons_append, List.length_cons, List.length_nil, Nat.reduceBEq, Nat.reduceAdd, Nat.reduceSub, ta, tb, tn0, tn1, tn2, tn3, tn4, tn5, tn6, tn7, tn8, tn9, tn10, tn11, tn12]
      refine ⟨Or.inr rfl, hK I5 1 (fa.tr (fun b c d w => f5 b c d (fun v => w ⟨v.2.1, by unfold sK; omega⟩))) ?_⟩
      rw [xe]
      refine ⟨rfl, t5, ?_, ?_, ?_, ?_, (a + cs.length) :: hs, ⟨?_, ?_, ?_, ⟨?_, ?_⟩, ?_, ?_⟩, ?_, fun _ => ⟨a + cs.length, hs, rfl, ?_⟩⟩
      · dsimp only; rw [f5 _ _ _ (by decide), k4 _ _ _ (by decide), f3 _ _ _ (by omega), f2 _ _ _ (by decide)]; exact x2
      · dsimp only; rw [f5 _ _ _ (by decide), k4 _ _ _ (by decide), f3 _ _ _ (by omega)]; exact s2
      · dsimp only; rw [f5 _ _ _ (by decide)]; exact x4
      · dsimp only; rw [f5 _ _ _ (by decide), k4 _ _ _ (by decide), f3 _ _ _ (by omega), f2 _ _ _ (by decide)]; exact x5
      · rw [f5 _ _ _ (by decide), k4 _ _ _ (by decide), f3 _ _ _ (by omega), f2 _ _ _ (by decide)]; exact b1
      · exact b2.q (fun c hc => by rw [f5 _ _ _ (by omega), k4 _ _ _ (by omega), f3 _ _ _ (by omega), f2 _ _ _ (by omega)])
      · rw [f5 _ _ _ (by decide), k4 _ _ _ (by decide)]; exact v5
      · rw [f5 _ _ _ (by omega), k4 _ _ _ (by omega)]; exact v4
      · exact hR.q b4 (fun c hc => by rw [f5 _ _ _ (by omega), k4 _ _ _ (by omega), f3 _ _ _ (by omega), f2 _ _ _ (by omega)])
      · rw [f5 _ _ _ (by decide), k4 _ _ _ (by decide), v6, List.length_append, List.length_singleton, Nat.add_assoc]
      · refine RKp_snoc (RKp_frb (I := vk I) (I' := vk I5) _ _ _ (fun b c u1 u2 => ?_) b6) (by omega) ?_
        · show I5 b 0 (64 + c) = I b 0 (64 + c)
          rw [f5 _ _ _ (by omega), k4 _ _ _ (by omega), f3 _ _ _ (by omega), f2 _ _ _ (by omega)]
        · have w1 : vk I5 69 0 (a + cs.length) = 0 := by show I5 69 0 (64 + _) = _; rw [f5 _ _ _ (by omega), k4 _ _ _ (by omega)]; exact v1
          have w2 : vk I5 70 0 (a + cs.length) = nI vb := by show I5 70 0 (64 + _) = _; rw [f5 _ _ _ (by omega), k4 _ _ _ (by omega)]; exact v2
          refine Or.inl ⟨?_, w1, ?_, rfl⟩
          · rw [e1]; show ¬ nI _ < nI 0; rw [n_lt (by omega) (by omega)]; omega
          · rw [w2, e1]; congr 1; omega
      · show hs.length + 1 = nbW ws + 1
        rw [hl]; rfl
      · rw [List.length_append, List.length_singleton, Nat.add_assoc]
  refine p_isSign (q := 22) (by decide) x1 (fun k22 => ?_) (fun n22 => ?_)
  · dsimp only [x_int, x_lng, x_ild, x_lld, x_ald, x_ist, x_ast, x_lst, x_inc, x_ii, x_id, x_i, x_ll, x_ld, x_l, x_cmp, x_i2l, x_l2i, x_if, x_ic, x_dup, x_pop, x_dup2, x_gI, x_gL, x_gR, x_g1, x_g0, x_gP, x_pI, x_pZ, x_pL, x_pP, x_al, x_as, x_all, x_asl, x_alr, x_len, x_cpy, x_m2, x_m1, x_m2l, x_m1l, x_call, x_cv, x_ri, x_rz, x_rl, x_rv, zg, zset, zbef, zlong, zcat, cond_true, cond_false, List.take, List.drop, rv1, rv2, rv3, rv4, rv5, rv6, rv7, sm0, sm1, bl0, bl1, bl2, bl3, bl4, bl5, bl6, bl7, bl8, List.nil_append, List.cons_append, List.length_cons, List.length_nil, Nat.reduceBEq, Nat.reduceAdd, Nat.reduceSub, ta, tb, tn0, tn1, tn2, tn3, tn4, tn5, tn6, tn7, tn8, tn9, tn10, tn11, tn12]
    rw [x2]
    rw [if_neg (by omega), if_pos k22] at xs
    refine ⟨fun y => absurd y (show ¬ (1 : Int32) = 0 by decide), fun _ => ⟨fun z => p_wrong (e := 2) x1 (fun I1 f1 s1 => ⟨Or.inl rfl, bad I1 2 f1 s1 ?_⟩), fun z => ?_⟩⟩
    · have z : nI (opn ws) = nI 8 := z
      rw [n_eq (by omega) (by omega)] at z
      rw [xs, if_pos z]
    have z : ¬ nI (opn ws) = nI 8 := z
    rw [n_eq (by omega) (by omega)] at z
    rw [if_neg z] at xs
    rw [n_succ]
    obtain ⟨J1, g1, y1, f1⟩ := zsI_ex I L P 12 0 43 (nI (opn ws + 1))
    rw [g1]
    refine p_waitsFor (w := ws.length) (by omega) ((f1 _ _ _ (by decide)).trans b1) (fun I2 f2 s2 w2 => ?_)
    dsimp only [x_int, x_lng, x_ild, x_lld, x_ald, x_ist, x_ast, x_lst, x_inc, x_ii, x_id, x_i, x_ll, x_ld, x_l, x_cmp, x_i2l, x_l2i, x_if, x_ic, x_dup, x_pop, x_dup2, x_gI, x_gL, x_gR, x_g1, x_g0, x_gP, x_pI, x_pZ, x_pL, x_pP, x_al, x_as, x_all, x_asl, x_alr, x_len, x_cpy, x_m2, x_m1, x_m2l, x_m1l, x_call, x_cv, x_ri, x_rz, x_rl, x_rv, zg, zset, zbef, zlong, zcat, cond_true, cond_false, List.take, List.drop, rv1, rv2, rv3, rv4, rv5, rv6, rv7, sm0, sm1, bl0, bl1, bl2, bl3, bl4, bl5, bl6, bl7, bl8, List.nil_append, List.cons_append, List.length_cons, List.length_nil, Nat.reduceBEq, Nat.reduceAdd, Nat.reduceSub, ta, tb, tn0, tn1, tn2, tn3, tn4, tn5, tn6, tn7, tn8, tn9, tn10, tn11, tn12]
    obtain ⟨J3, g3, y3, f3⟩ := zsI_ex I2 L P 12 0 46 (1 : Int32)
    rw [g3]
    refine ⟨Or.inr rfl, ?_⟩
    have fa : ony (sK a) I J3 := fun b c d w => by
      rw [f3 b c d (fun v => w ⟨v.2.1, by unfold sK; omega⟩), f2 b c d (fun v => w ⟨v.1, by unfold sK; omega⟩), f1 b c d (fun v => w ⟨v.2.1, by unfold sK; omega⟩)]
    refine p_next (hp.g (sK_G fa)) (x1.q (fun q u1 u2 => by rw [f3 _ _ _ (by omega), f2 _ _ _ (by omega), f1 _ _ _ (by omega)])) (fun I5 f5 t5 => ?_)
    dsimp only [x_int, x_lng, x_ild, x_lld, x_ald, x_ist, x_ast, x_lst, x_inc, x_ii, x_id, x_i, x_ll, x_ld, x_l, x_cmp, x_i2l, x_l2i, x_if, x_ic, x_dup, x_pop, x_dup2, x_gI, x_gL, x_gR, x_g1, x_g0, x_gP, x_pI, x_pZ, x_pL, x_pP, x_al, x_as, x_all, x_asl, x_alr, x_len, x_cpy, x_m2, x_m1, x_m2l, x_m1l, x_call, x_cv, x_ri, x_rz, x_rl, x_rv, zg, zset, zbef, zlong, zcat, cond_true, cond_false, List.take, List.drop, rv1, rv2, rv3, rv4, rv5, rv6, rv7, sm0, sm1, bl0, bl1, bl2, bl3, bl4, bl5, bl6, bl7, bl8, List.nil_append, List.cons_append, List.length_cons, List.length_nil, Nat.reduceBEq, Nat.reduceAdd, Nat.reduceSub, ta, tb, tn0, tn1, tn2, tn3, tn4, tn5, tn6, tn7, tn8, tn9, tn10, tn11, tn12]
    refine ⟨Or.inr rfl, hK I5 1 (fa.tr (fun b c d w => f5 b c d (fun v => w ⟨v.2.1, by unfold sK; omega⟩))) ?_⟩
    rw [xs]
    have al : ∀ b d, ¬ (b = 12 ∧ ((4 ≤ d ∧ d ≤ 11) ∨ d = 41 ∨ d = 43 ∨ d = 46)) → ¬ (b = 72 ∧ d = ws.length) → I5 b 0 d = I b 0 d := fun b d u1 u2 => by
      rw [f5 _ _ _ (by omega), f3 _ _ _ (by omega), f2 _ _ _ (by omega), f1 _ _ _ (by omega)]
    refine ⟨rfl, t5, ?_, ?_, ?_, ?_, hs, ⟨?_, ⟨?_, ?_⟩, ?_, ?_, ?_, ?_⟩, ?_, fun q => by cases q⟩
    · dsimp only; rw [f5 _ _ _ (by decide), f3 _ _ _ (by decide), f2 _ _ _ (by omega)]; exact y1
    · dsimp only; rw [al _ _ (by decide) (by omega)]; exact x3
    · dsimp only; rw [al _ _ (by decide) (by omega)]; exact x4
    · dsimp only; rw [f5 _ _ _ (by decide)]; exact y3
    · rw [f5 _ _ _ (by decide), f3 _ _ _ (by decide)]; exact w2
    · rw [f5 _ _ _ (by omega), f3 _ _ _ (by omega)]; exact s2
    · exact b2.q (fun c hc => al _ _ (by omega) (by omega))
    · rw [al _ _ (by decide) (by omega)]; exact b3
    · exact hR.q b4 (fun c hc => al _ _ (by omega) (by omega))
    · rw [al _ _ (by decide) (by omega)]; exact b5
    · exact RKp_frb (I := vk I) (I' := vk I5) _ _ _ (fun b c u1 u2 => al b (64 + c) (by omega) (by omega)) b6
    · exact hl
  · dsimp only [x_int, x_lng, x_ild, x_lld, x_ald, x_ist, x_ast, x_lst, x_inc, x_ii, x_id, x_i, x_ll, x_ld, x_l, x_cmp, x_i2l, x_l2i, x_if, x_ic, x_dup, x_pop, x_dup2, x_gI, x_gL, x_gR, x_g1, x_g0, x_gP, x_pI, x_pZ, x_pL, x_pP, x_al, x_as, x_all, x_asl, x_alr, x_len, x_cpy, x_m2, x_m1, x_m2l, x_m1l, x_call, x_cv, x_ri, x_rz, x_rl, x_rv, zg, zset, zbef, zlong, zcat, cond_true, cond_false, List.take, List.drop, rv1, rv2, rv3, rv4, rv5, rv6, rv7, sm0, sm1, bl0, bl1, bl2, bl3, bl4, bl5, bl6, bl7, bl8, List.nil_append, List.cons_append, List.length_cons, List.length_nil, Nat.reduceBEq, Nat.reduceAdd, Nat.reduceSub, ta, tb, tn0, tn1, tn2, tn3, tn4, tn5, tn6, tn7, tn8, tn9, tn10, tn11, tn12]
    refine ⟨fun _ => p_isKey (q := 11) (by decide) x1 (fun k11 => ?_) (fun n11 => ?_), fun y => absurd rfl y⟩
    rotate_left
    · dsimp only [x_int, x_lng, x_ild, x_lld, x_ald, x_ist, x_ast, x_lst, x_inc, x_ii, x_id, x_i, x_ll, x_ld, x_l, x_cmp, x_i2l, x_l2i, x_if, x_ic, x_dup, x_pop, x_dup2, x_gI, x_gL, x_gR, x_g1, x_g0, x_gP, x_pI, x_pZ, x_pL, x_pP, x_al, x_as, x_all, x_asl, x_alr, x_len, x_cpy, x_m2, x_m1, x_m2l, x_m1l, x_call, x_cv, x_ri, x_rz, x_rl, x_rv, zg, zset, zbef, zlong, zcat, cond_true, cond_false, List.take, List.drop, rv1, rv2, rv3, rv4, rv5, rv6, rv7, sm0, sm1, bl0, bl1, bl2, bl3, bl4, bl5, bl6, bl7, bl8, List.nil_append, List.cons_append, List.length_cons, List.length_nil, Nat.reduceBEq, Nat.reduceAdd, Nat.reduceSub, ta, tb, tn0, tn1, tn2, tn3, tn4, tn5, tn6, tn7, tn8, tn9, tn10, tn11, tn12]
      exact ⟨fun _ => lf (fun u => n11 u.1) n22 _, fun y => absurd rfl y⟩
    dsimp only [x_int, x_lng, x_ild, x_lld, x_ald, x_ist, x_ast, x_lst, x_inc, x_ii, x_id, x_i, x_ll, x_ld, x_l, x_cmp, x_i2l, x_l2i, x_if, x_ic, x_dup, x_pop, x_dup2, x_gI, x_gL, x_gR, x_g1, x_g0, x_gP, x_pI, x_pZ, x_pL, x_pP, x_al, x_as, x_all, x_asl, x_alr, x_len, x_cpy, x_m2, x_m1, x_m2l, x_m1l, x_call, x_cv, x_ri, x_rz, x_rl, x_rv, zg, zset, zbef, zlong, zcat, cond_true, cond_false, List.take, List.drop, rv1, rv2, rv3, rv4, rv5, rv6, rv7, sm0, sm1, bl0, bl1, bl2, bl3, bl4, bl5, bl6, bl7, bl8, List.nil_append, List.cons_append, List.length_cons, List.length_nil, Nat.reduceBEq, Nat.reduceAdd, Nat.reduceSub, ta, tb, tn0, tn1, tn2, tn3, tn4, tn5, tn6, tn7, tn8, tn9, tn10, tn11, tn12]
    rw [x5]
    refine ⟨fun y => absurd y (show ¬ (1 : Int32) = 0 by decide), fun _ => ⟨fun y => lf (fun u => ?_) n22 _, fun y => ?_⟩⟩
    · rw [u.2] at y; exact absurd y (by decide)
    have hmn : mn = true := by cases mn; exact absurd rfl y; rfl
    rw [if_pos ⟨k11, hmn⟩] at xs
    refine p_isCounted i5 x1 x3 (fun c5 I2 f2 s2 => ?_) (fun c5 I2 f2 s2 => ?_)
    rotate_left
    · dsimp only [x_int, x_lng, x_ild, x_lld, x_ald, x_ist, x_ast, x_lst, x_inc, x_ii, x_id, x_i, x_ll, x_ld, x_l, x_cmp, x_i2l, x_l2i, x_if, x_ic, x_dup, x_pop, x_dup2, x_gI, x_gL, x_gR, x_g1, x_g0, x_gP, x_pI, x_pZ, x_pL, x_pP, x_al, x_as, x_all, x_asl, x_alr, x_len, x_cpy, x_m2, x_m1, x_m2l, x_m1l, x_call, x_cv, x_ri, x_rz, x_rl, x_rv, zg, zset, zbef, zlong, zcat, cond_true, cond_false, List.take, List.drop, rv1, rv2, rv3, rv4, rv5, rv6, rv7, sm0, sm1, bl0, bl1, bl2, bl3, bl4, bl5, bl6, bl7, bl8, List.nil_append, List.cons_append, List.length_cons, List.length_nil, Nat.reduceBEq, Nat.reduceAdd, Nat.reduceSub, ta, tb, tn0, tn1, tn2, tn3, tn4, tn5, tn6, tn7, tn8, tn9, tn10, tn11, tn12]
      rw [if_pos c5] at xs
      exact ⟨fun _ => ⟨Or.inl rfl, bad I2 2 f2 s2 xs⟩, fun y => absurd rfl y⟩
    rw [if_neg (by omega)] at xs
    dsimp only [x_int, x_lng, x_ild, x_lld, x_ald, x_ist, x_ast, x_lst, x_inc, x_ii, x_id, x_i, x_ll, x_ld, x_l, x_cmp, x_i2l, x_l2i, x_if, x_ic, x_dup, x_pop, x_dup2, x_gI, x_gL, x_gR, x_g1, x_g0, x_gP, x_pI, x_pZ, x_pL, x_pP, x_al, x_as, x_all, x_asl, x_alr, x_len, x_cpy, x_m2, x_m1, x_m2l, x_m1l, x_call, x_cv, x_ri, x_rz, x_rl, x_rv, zg, zset, zbef, zlong, zcat, cond_true, cond_false, List.take, List.drop, rv1, rv2, rv3, rv4, rv5, rv6, rv7, sm0, sm1, bl0, bl1, bl2, bl3, bl4, bl5, bl6, bl7, bl8, List.nil_append, List.cons_append, List.length_cons, List.length_nil, Nat.reduceBEq, Nat.reduceAdd, Nat.reduceSub, ta, tb, tn0, tn1, tn2, tn3, tn4, tn5, tn6, tn7, tn8, tn9, tn10, tn11, tn12]
    refine ⟨fun y => absurd y (show ¬ (1 : Int32) = 0 by decide), fun _ => ?_⟩
    refine p_waitsFor (w := ws.length) (by omega) ((f2 _ _ _ (by decide)).trans b1) (fun I3 f3 s3 w3 => ?_)
    dsimp only [x_int, x_lng, x_ild, x_lld, x_ald, x_ist, x_ast, x_lst, x_inc, x_ii, x_id, x_i, x_ll, x_ld, x_l, x_cmp, x_i2l, x_l2i, x_if, x_ic, x_dup, x_pop, x_dup2, x_gI, x_gL, x_gR, x_g1, x_g0, x_gP, x_pI, x_pZ, x_pL, x_pP, x_al, x_as, x_all, x_asl, x_alr, x_len, x_cpy, x_m2, x_m1, x_m2l, x_m1l, x_call, x_cv, x_ri, x_rz, x_rl, x_rv, zg, zset, zbef, zlong, zcat, cond_true, cond_false, List.take, List.drop, rv1, rv2, rv3, rv4, rv5, rv6, rv7, sm0, sm1, bl0, bl1, bl2, bl3, bl4, bl5, bl6, bl7, bl8, List.nil_append, List.cons_append, List.length_cons, List.length_nil, Nat.reduceBEq, Nat.reduceAdd, Nat.reduceSub, ta, tb, tn0, tn1, tn2, tn3, tn4, tn5, tn6, tn7, tn8, tn9, tn10, tn11, tn12]
    have fa : ony (sK a) I I3 := fun b c d w => by
      rw [f3 b c d (fun v => w ⟨v.1, by unfold sK; omega⟩), f2 b c d (fun v => w ⟨v.1, by unfold sK; omega⟩)]
    refine p_next (hp.g (sK_G fa)) (x1.q (fun q u1 u2 => by rw [f3 _ _ _ (by omega), f2 _ _ _ (by omega)])) (fun I5 f5 t5 => ?_)
    dsimp only [x_int, x_lng, x_ild, x_lld, x_ald, x_ist, x_ast, x_lst, x_inc, x_ii, x_id, x_i, x_ll, x_ld, x_l, x_cmp, x_i2l, x_l2i, x_if, x_ic, x_dup, x_pop, x_dup2, x_gI, x_gL, x_gR, x_g1, x_g0, x_gP, x_pI, x_pZ, x_pL, x_pP, x_al, x_as, x_all, x_asl, x_alr, x_len, x_cpy, x_m2, x_m1, x_m2l, x_m1l, x_call, x_cv, x_ri, x_rz, x_rl, x_rv, zg, zset, zbef, zlong, zcat, cond_true, cond_false, List.take, List.drop, rv1, rv2, rv3, rv4, rv5, rv6, rv7, sm0, sm1, bl0, bl1, bl2, bl3, bl4, bl5, bl6, bl7, bl8, List.nil_append, List.cons_append, List.length_cons, List.length_nil, Nat.reduceBEq, Nat.reduceAdd, Nat.reduceSub, ta, tb, tn0, tn1, tn2, tn3, tn4, tn5, tn6, tn7, tn8, tn9, tn10, tn11, tn12]
    refine ⟨Or.inr rfl, hK I5 1 (fa.tr (fun b c d w => f5 b c d (fun v => w ⟨v.2.1, by unfold sK; omega⟩))) ?_⟩
    rw [xs]
    have al : ∀ b d, ¬ (b = 12 ∧ ((4 ≤ d ∧ d ≤ 11) ∨ d = 41 ∨ d = 44)) → ¬ (b = 72 ∧ d = ws.length) → I5 b 0 d = I b 0 d := fun b d u1 u2 => by
      rw [f5 _ _ _ (by omega), f3 _ _ _ (by omega), f2 _ _ _ (by omega)]
    refine ⟨rfl, t5, ?_, ?_, ?_, ?_, hs, ⟨?_, ⟨?_, ?_⟩, ?_, ?_, ?_, ?_⟩, ?_, fun q => by cases q⟩
    · dsimp only; rw [al _ _ (by decide) (by omega)]; exact x2
    · dsimp only; rw [f5 _ _ _ (by decide), f3 _ _ _ (by omega)]; exact s2
    · dsimp only; rw [al _ _ (by decide) (by omega)]; exact x4
    · dsimp only; rw [al _ _ (by decide) (by omega)]; exact x5
    · rw [f5 _ _ _ (by decide)]; exact w3
    · rw [f5 _ _ _ (by omega)]; exact s3
    · exact b2.q (fun c hc => al _ _ (by omega) (by omega))
    · rw [al _ _ (by decide) (by omega)]; exact b3
    · exact hR.q b4 (fun c hc => al _ _ (by omega) (by omega))
    · rw [al _ _ (by decide) (by omega)]; exact b5
    · exact RKp_frb (I := vk I) (I' := vk I5) _ _ _ (fun b c u1 u2 => al b (64 + c) (by omega) (by omega)) b6
    · exact hl
