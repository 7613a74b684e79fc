theorem pop1_none {ws : List Nat} (h : opn ws = 0) (hk : ∀ x, x ∈ ws → sgK x) : (popC 1 ws).2 = [] := by
  have ho := popC_opn (r := 1) (Nat.le_refl _) (ws := ws)
  cases e : (popC 1 ws).2 with
  | nil => rfl
  | cons k l =>
    have rk := popC_top e
    have kk := popC_all hk k (by rw [e]; exact List.mem_cons_self ..)
    rcases rkC_pos kk with z | z
    · omega
    · have k22 : k = 22 := z.2
      subst k22
      rw [e, h] at ho
      have : opn l + 1 = 0 := ho
      omega
theorem xst_t {B : Nat → Nat} {n i cnt : Nat} {cs : List Int32} {ws : List Nat} {mn : Bool} {r : Nat × List Int32 × Nat} : ¬ xst B n (i, cs, ws, true, mn, cnt) = .inr (.inl r) := by
  intro e
  have xs : xst B n (i, cs, ws, true, mn, cnt) = (if kd B n i = 11 ∧ mn = true then (if cnt = 64 then .inl (2, i) else .inr (.inr (i + 1, cs, 11 :: ws, true, mn, cnt + 1)))
      else if kd B n i = 22 then (if opn ws = 8 then .inl (2, i) else .inr (.inr (i + 1, cs, 22 :: ws, true, true, cnt)))
      else if 12 ≤ kd B n i ∧ kd B n i ≤ 18 then (if cnt = 64 then .inl (2, i) else .inr (.inr (i + 1, cs ++ [-(nI (kd B n i))], ws, false, mn, cnt + 1)))
      else if kd B n i = 20 then (if vl B n i ≤ nI 9999 then (if cnt = 64 then .inl (2, i) else .inr (.inr (i + 1, cs ++ [vl B n i], ws, false, mn, cnt + 1))) else .inl (2, i))
      else .inl (1, i)) := rfl
  rw [xs] at e
  repeat' split at e
  all_goals cases e
theorem xst_f {B : Nat → Nat} {n i cnt : Nat} {cs : List Int32} {ws : List Nat} {mn : Bool} {r : Nat × List Int32 × Nat} (e : xst B n (i, cs, ws, false, mn, cnt) = .inr (.inl r)) : opn ws = 0 ∧ r = (i, cs ++ (popC 1 ws).1, cnt) := by
  have xs : xst B n (i, cs, ws, false, mn, cnt) = (if kd B n i = 23 ∧ 0 < opn ws then .inr (.inr (i + 1, cs ++ (popC 1 ws).1, (popC 1 ws).2.tail, false, mn, cnt))
    else if isB (kd B n i) then
      (if rkC (kd B n i) = 4 ∧ cmT ws = true then .inl (1, i)
      else if cnt = 64 then .inl (2, i)
      else .inr (.inr (i + 1, cs ++ (popC (rkC (kd B n i)) ws).1, kd B n i :: (popC (rkC (kd B n i)) ws).2, true, decide (kd B n i = 9 ∨ kd B n i = 10), cnt + 1)))
    else if 0 < opn ws then .inl (1, i)
    else .inr (.inl (i, cs ++ (popC 1 ws).1, cnt))) := rfl
  rw [xs] at e
  by_cases c1 : kd B n i = 23 ∧ 0 < opn ws
  · rw [if_pos c1] at e; cases e
  rw [if_neg c1] at e
  by_cases c2 : isB (kd B n i)
  · rw [if_pos c2] at e
    by_cases c3 : rkC (kd B n i) = 4 ∧ cmT ws = true
    · rw [if_pos c3] at e; cases e
    · rw [if_neg c3] at e
      by_cases c4 : cnt = 64
      · rw [if_pos c4] at e; cases e
      · rw [if_neg c4] at e; cases e
  rw [if_neg c2] at e
  by_cases c3 : 0 < opn ws
  · rw [if_pos c3] at e; cases e
  · rw [if_neg c3] at e; cases e; exact ⟨by omega, rfl⟩
/-- what a sum gives -/
def sout (B : Nat → Nat) (n a : Nat) (I' : zI) (b : Int32) : (Nat × Nat) ⊕ (Nat × List Int32 × Nat) → Prop
  | .inl e => b = 0 ∧ stR B n (.inr e) I'
  | .inr (j, cs, cnt) => (kd B n j = 21 ∧ b = 1 ∧ tkR B n j I' ∧ I' 12 0 19 = nI cnt ∧ I' 12 0 44 = nI cnt ∧ cnt = a + cs.length ∧ cnt ≤ 64 ∧ RK (vk I') cs a []) ∨ (¬ kd B n j = 21 ∧ b = 0 ∧ stR B n (.inr (1, j)) I')
theorem p_sumRead {K : zQ} {I : zI} {L : zJ} {P : zP} {B : Nat → Nat} {n m a i0 : Nat} (hm : m ≤ n ∧ kd B n m = 34) (hi : i0 ≤ m) (ha : a ≤ 64) (hp : RTp B n I) (h : tkR B n i0 I) (h19 : I 12 0 19 = nI a) (h44 : I 12 0 44 = nI a) (hK : ∀ (I' : zI) (b : Int32), ony (sK a) I I' → sout B n a I' b (exA B n i0 a) → K [.inl b] (I', L, P)) : mX12_sumRead K [refR] (I, L, P) := by
  show bX12_sumRead_0 K [some (.inr (.inr (12,0)))] [] (I, L, P)
  unfold bX12_sumRead_0
  dsimp only [x_int, x_lng, x_ild, x_lld, x_ald, x_ist, x_ast, x_lst, x_inc, x_ii, x_id, x_i, x_ll, x_ld, x_l, x_cmp, x_i2l, x_l2i, x_if, x_ic, x_dup, x_pop, x_dup2, x_gI, x_gL, x_gR, x_g1, x_g0, x_gP, x_pI, x_pZ, x_pL, x_pP, x_al, x_as, x_all, x_asl, x_alr, x_len, x_cpy, x_m2, x_m1, x_m2l, x_m1l, x_call, x_cv, x_ri, x_rz, x_rl, x_rv, zg, zset, zbef, zlong, zcat, cond_true, cond_false, List.take, List.drop, rv1, rv2, rv3, rv4, rv5, rv6, rv7, sm0, sm1, bl0, bl1, bl2, bl3, bl4, bl5, bl6, bl7, bl8, List.nil_append, List.cons_append, List.length_cons, List.length_nil, Nat.reduceBEq, Nat.reduceAdd, Nat.reduceSub, ta, tb, tn0, tn1, tn2, tn3, tn4, tn5, tn6, tn7, tn8, tn9, tn10, tn11, tn12]
  obtain ⟨J1, g1, y1, f1⟩ := zsI_ex I L P 12 0 41 (0 : Int32)
  rw [g1]
  obtain ⟨J2, g2, y2, f2⟩ := zsI_ex J1 L P 12 0 42 (0 : Int32)
  rw [g2]
  obtain ⟨J3, g3, y3, f3⟩ := zsI_ex J2 L P 12 0 43 (0 : Int32)
  rw [g3]
  obtain ⟨J4, g4, y4, f4⟩ := zsI_ex J3 L P 12 0 45 (1 : Int32)
  rw [g4]
  obtain ⟨J5, g5, y5, f5⟩ := zsI_ex J4 L P 12 0 46 (1 : Int32)
  rw [g5]
  refine ⟨Or.inr rfl, Or.inr rfl, ?_⟩
  have al : ∀ b c d, ¬ (b = 12 ∧ c = 0 ∧ (d = 41 ∨ d = 42 ∨ d = 43 ∨ d = 45 ∨ d = 46)) → J5 b c d = I b c d := fun b c d u => by
    rw [f5 _ _ _ (by omega), f4 _ _ _ (by omega), f3 _ _ _ (by omega), f2 _ _ _ (by omega), f1 _ _ _ (by omega)]
  have X5 : XR B n a (i0, [], [], true, true, a) J5 := by
    refine ⟨h.q (fun q u1 u2 => al _ _ _ (by omega)), ?_, (al _ _ _ (by decide)).trans h44, ?_, y5, [], ⟨?_, trivial, ?_, trivial, (al _ _ _ (by decide)).trans h19, rfl⟩, rfl, fun q => by cases q⟩
    · dsimp only; rw [f5 _ _ _ (by decide), f4 _ _ _ (by decide)]; exact y3
    · dsimp only; rw [f5 _ _ _ (by decide)]; exact y4
    · rw [f5 _ _ _ (by decide), f4 _ _ _ (by decide), f3 _ _ _ (by decide), f2 _ _ _ (by decide)]; exact y1
    · rw [f5 _ _ _ (by decide), f4 _ _ _ (by decide), f3 _ _ _ (by decide)]; exact y2
  have I5 : XI a (i0, [], [], true, true, a) := ⟨trivial, fun _ _ k l q => (by cases q), Nat.zero_le _, by show 0 + (0 - 0) + a = a; omega, ha, fun x hx => (by cases hx)⟩
  refine zmea (fun k Z M => ∃ (I' : zI) (X : aX), Z = [some refR] ∧ M = (I', L, P) ∧ k = n + 2 - X.1 ∧ X.1 ≤ m ∧ ony (sK a) I I' ∧ XR B n a X I' ∧ XI a X ∧ exA B n i0 a = xrun B n (n + 1 - X.1) X) ?_ (n + 2 - i0) ⟨J5, (i0, [], [], true, true, a), rfl, rfl, rfl, hi, fun b c d w => al b c d (fun v => w ⟨v.2.1, by unfold sK; omega⟩), X5, I5, rfl⟩
  rintro k Z M ⟨I', X, rfl, rfl, hk, hi', q1, hX, hXI, hex⟩ self hself
  obtain ⟨i, cs, ws, wa, mn, cnt⟩ := X
  dsimp only at hi' hk hex
  have hp' : RTp B n I' := hp.g (sK_G q1)
  have i3 : opn ws ≤ 8 := hXI.2.2.1
  have x1 : tkR B n i I' := hX.1
  have x2 : I' 12 0 43 = nI (opn ws) := hX.2.1
  have x3 : I' 12 0 44 = nI cnt := hX.2.2.1
  have x4 : I' 12 0 45 = bI wa := hX.2.2.2.1
  rw [show n + 1 - i = (n + 1 - (i + 1)) + 1 by omega, xrun_s] at hex
  have go : ∀ (I2 : zI) (b : Int32), ¬ (kd B n i = 21 ∧ wa = false ∧ opn ws = 0) → ony (sK a) I' I2 → rout B n a i I2 b (xst B n (i, cs, ws, wa, mn, cnt)) → (b = 0 ∧ K [.inl 0] (I2, L, P)) ∨ (b = 1 ∧ self [some refR] [] (I2, L, P)) := fun I2 b nn f2 o2 => by
    cases ex : xst B n (i, cs, ws, wa, mn, cnt) with
    | inl e =>
      rw [ex] at o2 hex
      obtain ⟨b0, o2⟩ := o2
      exact Or.inl ⟨b0, hK I2 0 (q1.tr f2) (by rw [hex]; exact ⟨rfl, o2⟩)⟩
    | inr y =>
      cases y with
      | inl r =>
        rw [ex] at o2 hex
        obtain ⟨b0, o2⟩ := o2
        cases wa with
        | true => exact absurd ex xst_t
        | false =>
          obtain ⟨u1, u2⟩ := xst_f ex
          subst u2
          exact Or.inl ⟨b0, hK I2 0 (q1.tr f2) (by rw [hex]; exact Or.inr ⟨fun u => nn ⟨u, rfl, u1⟩, rfl, o2⟩)⟩
      | inr X' =>
        obtain ⟨g1, g2, g3⟩ := XI_step hXI ex
        dsimp only at g2 g3
        rw [ex] at o2 hex
        have im : ¬ i = m := fun u => g3 (by rw [u]; exact hm.2)
        dsimp only at hex
        exact Or.inr ⟨o2.1, hself (n + 2 - X'.1) _ _ (by omega) ⟨I2, X', rfl, rfl, rfl, by omega, q1.tr f2, o2.2, g1, by rw [hex, g2]⟩⟩
  have s48 : ¬ (kd B n i = 21 ∧ wa = false ∧ opn ws = 0) → bX12_sumRead_48 K self [some refR] [] (I', L, P) := fun nn => by
    unfold bX12_sumRead_48
    dsimp only [x_int, x_lng, x_ild, x_lld, x_ald, x_ist, x_ast, x_lst, x_inc, x_ii, x_id, x_i, x_ll, x_ld, x_l, x_cmp, x_i2l, x_l2i, x_if, x_ic, x_dup, x_pop, x_dup2, x_gI, x_gL, x_gR, x_g1, x_g0, x_gP, x_pI, x_pZ, x_pL, x_pP, x_al, x_as, x_all, x_asl, x_alr, x_len, x_cpy, x_m2, x_m1, x_m2l, x_m1l, x_call, x_cv, x_ri, x_rz, x_rl, x_rv, zg, zset, zbef, zlong, zcat, cond_true, cond_false, List.take, List.drop, rv1, rv2, rv3, rv4, rv5, rv6, rv7, sm0, sm1, bl0, bl1, bl2, bl3, bl4, bl5, bl6, bl7, bl8, List.nil_append, List.cons_append, List.length_cons, List.length_nil, Nat.reduceBEq, Nat.reduceAdd, Nat.reduceSub, ta, tb, tn0, tn1, tn2, tn3, tn4, tn5, tn6, tn7, tn8, tn9, tn10, tn11, tn12]
    rw [x4]
    cases wa with
    | true =>
      refine ⟨fun y => absurd y (by decide), fun _ => p_leafRead hp' hX hXI (fun I2 b f2 o2 => ?_)⟩
      dsimp only [x_int, x_lng, x_ild, x_lld, x_ald, x_ist, x_ast, x_lst, x_inc, x_ii, x_id, x_i, x_ll, x_ld, x_l, x_cmp, x_i2l, x_l2i, x_if, x_ic, x_dup, x_pop, x_dup2, x_gI, x_gL, x_gR, x_g1, x_g0, x_gP, x_pI, x_pZ, x_pL, x_pP, x_al, x_as, x_all, x_asl, x_alr, x_len, x_cpy, x_m2, x_m1, x_m2l, x_m1l, x_call, x_cv, x_ri, x_rz, x_rl, x_rv, zg, zset, zbef, zlong, zcat, cond_true, cond_false, List.take, List.drop, rv1, rv2, rv3, rv4, rv5, rv6, rv7, sm0, sm1, bl0, bl1, bl2, bl3, bl4, bl5, bl6, bl7, bl8, List.nil_append, List.cons_append, List.length_cons, List.length_nil, Nat.reduceBEq, Nat.reduceAdd, Nat.reduceSub, ta, tb, tn0, tn1, tn2, tn3, tn4, tn5, tn6, tn7, tn8, tn9, tn10, tn11, tn12, bX12_sumRead_72]
      rcases go I2 b nn f2 o2 with ⟨e, u⟩ | ⟨e, u⟩
      · subst e; exact ⟨fun _ => ⟨Or.inl rfl, u⟩, fun y => absurd rfl y⟩
      · subst e; exact ⟨fun y => absurd y (by decide), fun _ => u⟩
    | false =>
      refine ⟨fun _ => p_signs hp' hX hXI (fun I2 b f2 o2 => ?_), fun y => absurd rfl y⟩
      dsimp only [x_int, x_lng, x_ild, x_lld, x_ald, x_ist, x_ast, x_lst, x_inc, x_ii, x_id, x_i, x_ll, x_ld, x_l, x_cmp, x_i2l, x_l2i, x_if, x_ic, x_dup, x_pop, x_dup2, x_gI, x_gL, x_gR, x_g1, x_g0, x_gP, x_pI, x_pZ, x_pL, x_pP, x_al, x_as, x_all, x_asl, x_alr, x_len, x_cpy, x_m2, x_m1, x_m2l, x_m1l, x_call, x_cv, x_ri, x_rz, x_rl, x_rv, zg, zset, zbef, zlong, zcat, cond_true, cond_false, List.take, List.drop, rv1, rv2, rv3, rv4, rv5, rv6, rv7, sm0, sm1, bl0, bl1, bl2, bl3, bl4, bl5, bl6, bl7, bl8, List.nil_append, List.cons_append, List.length_cons, List.length_nil, Nat.reduceBEq, Nat.reduceAdd, Nat.reduceSub, ta, tb, tn0, tn1, tn2, tn3, tn4, tn5, tn6, tn7, tn8, tn9, tn10, tn11, tn12, bX12_sumRead_72]
      rcases go I2 b nn f2 o2 with ⟨e, u⟩ | ⟨e, u⟩
      · subst e; exact ⟨fun _ => ⟨Or.inl rfl, u⟩, fun y => absurd rfl y⟩
      · subst e; exact ⟨fun y => absurd y (by decide), fun _ => u⟩
  dsimp only [x_int, x_lng, x_ild, x_lld, x_ald, x_ist, x_ast, x_lst, x_inc, x_ii, x_id, x_i, x_ll, x_ld, x_l, x_cmp, x_i2l, x_l2i, x_if, x_ic, x_dup, x_pop, x_dup2, x_gI, x_gL, x_gR, x_g1, x_g0, x_gP, x_pI, x_pZ, x_pL, x_pP, x_al, x_as, x_all, x_asl, x_alr, x_len, x_cpy, x_m2, x_m1, x_m2l, x_m1l, x_call, x_cv, x_ri, x_rz, x_rl, x_rv, zg, zset, zbef, zlong, zcat, cond_true, cond_false, List.take, List.drop, rv1, rv2, rv3, rv4, rv5, rv6, rv7, sm0, sm1, bl0, bl1, bl2, bl3, bl4, bl5, bl6, bl7, bl8, List.nil_append, List.cons_append, List.length_cons, List.length_nil, Nat.reduceBEq, Nat.reduceAdd, Nat.reduceSub, ta, tb, tn0, tn1, tn2, tn3, tn4, tn5, tn6, tn7, tn8, tn9, tn10, tn11, tn12]
  refine p_isSign (q := 21) (by decide) x1 (fun k21 => ?_) (fun n21 => ?_)
  rotate_left
  · dsimp only [x_int, x_lng, x_ild, x_lld, x_ald, x_ist, x_ast, x_lst, x_inc, x_ii, x_id, x_i, x_ll, x_ld, x_l, x_cmp, x_i2l, x_l2i, x_if, x_ic, x_dup, x_pop, x_dup2, x_gI, x_gL, x_gR, x_g1, x_g0, x_gP, x_pI, x_pZ, x_pL, x_pP, x_al, x_as, x_all, x_asl, x_alr, x_len, x_cpy, x_m2, x_m1, x_m2l, x_m1l, x_call, x_cv, x_ri, x_rz, x_rl, x_rv, zg, zset, zbef, zlong, zcat, cond_true, cond_false, List.take, List.drop, rv1, rv2, rv3, rv4, rv5, rv6, rv7, sm0, sm1, bl0, bl1, bl2, bl3, bl4, bl5, bl6, bl7, bl8, List.nil_append, List.cons_append, List.length_cons, List.length_nil, Nat.reduceBEq, Nat.reduceAdd, Nat.reduceSub, ta, tb, tn0, tn1, tn2, tn3, tn4, tn5, tn6, tn7, tn8, tn9, tn10, tn11, tn12]
    exact ⟨fun _ => s48 (fun u => n21 u.1), fun y => absurd rfl y⟩
  dsimp only [x_int, x_lng, x_ild, x_lld, x_ald, x_ist, x_ast, x_lst, x_inc, x_ii, x_id, x_i, x_ll, x_ld, x_l, x_cmp, x_i2l, x_l2i, x_if, x_ic, x_dup, x_pop, x_dup2, x_gI, x_gL, x_gR, x_g1, x_g0, x_gP, x_pI, x_pZ, x_pL, x_pP, x_al, x_as, x_all, x_asl, x_alr, x_len, x_cpy, x_m2, x_m1, x_m2l, x_m1l, x_call, x_cv, x_ri, x_rz, x_rl, x_rv, zg, zset, zbef, zlong, zcat, cond_true, cond_false, List.take, List.drop, rv1, rv2, rv3, rv4, rv5, rv6, rv7, sm0, sm1, bl0, bl1, bl2, bl3, bl4, bl5, bl6, bl7, bl8, List.nil_append, List.cons_append, List.length_cons, List.length_nil, Nat.reduceBEq, Nat.reduceAdd, Nat.reduceSub, ta, tb, tn0, tn1, tn2, tn3, tn4, tn5, tn6, tn7, tn8, tn9, tn10, tn11, tn12]
  rw [x4, x2]
  refine ⟨fun y => absurd y (show ¬ (1 : Int32) = 0 by decide), fun _ => ⟨fun y => ⟨fun z => ?_, fun z => s48 (fun u => z ?_)⟩, fun y => s48 (fun u => y (by rw [u.2.1]; rfl))⟩⟩
  rotate_left
  · rw [u.2.2]; exact Int32.le_refl _
  have z : nI (opn ws) ≤ nI 0 := z
  rw [n_le (by omega) (by omega)] at z
  have wf : wa = false := by cases wa; rfl; exact absurd y (by decide)
  subst wf
  have l72 := hXI.l72
  obtain ⟨-, -, -, i4, i5, i6⟩ := hXI
  obtain ⟨-, -, -, -, -, hs, hB, hl, hd⟩ := hX
  dsimp only at l72 i4 i5 i6 hB hl hd
  have o0 : opn ws = 0 := by omega
  have pn := pop1_none o0 i6
  have pl := popC_len (r := 1) (ws := ws)
  rw [pn] at pl
  have pl : (popC 1 ws).1.length + 0 = ws.length := pl
  refine p_bind (r := 1) (by decide) hB (hd rfl) hl i6 (by omega) l72 (fun I2 hs2 f2 hB2 hd2 hl2 => ?_)
  dsimp only [x_int, x_lng, x_ild, x_lld, x_ald, x_ist, x_ast, x_lst, x_inc, x_ii, x_id, x_i, x_ll, x_ld, x_l, x_cmp, x_i2l, x_l2i, x_if, x_ic, x_dup, x_pop, x_dup2, x_gI, x_gL, x_gR, x_g1, x_g0, x_gP, x_pI, x_pZ, x_pL, x_pP, x_al, x_as, x_all, x_asl, x_alr, x_len, x_cpy, x_m2, x_m1, x_m2l, x_m1l, x_call, x_cv, x_ri, x_rz, x_rl, x_rv, zg, zset, zbef, zlong, zcat, cond_true, cond_false, List.take, List.drop, rv1, rv2, rv3, rv4, rv5, rv6, rv7, sm0, sm1, bl0, bl1, bl2, bl3, bl4, bl5, bl6, bl7, bl8, List.nil_append, List.cons_append, List.length_cons, List.length_nil, Nat.reduceBEq, Nat.reduceAdd, Nat.reduceSub, ta, tb, tn0, tn1, tn2, tn3, tn4, tn5, tn6, tn7, tn8, tn9, tn10, tn11, tn12]
  refine ⟨Or.inr rfl, hK I2 1 (q1.tr (bK_S f2)) ?_⟩
  have xe : xst B n (i, cs, ws, false, mn, cnt) = .inr (.inl (i, cs ++ (popC 1 ws).1, cnt)) := by
    show (if kd B n i = 23 ∧ 0 < opn ws then _ else if isB (kd B n i) then _ else if 0 < opn ws then _ else _) = _
    rw [if_neg (by omega), if_neg (by unfold isB; omega), if_neg (by omega)]
  rw [xe] at hex
  rw [hex]
  have cn : cnt = a + (cs ++ (popC 1 ws).1).length := by rw [List.length_append]; omega
  refine Or.inl ⟨k21, rfl, x1.q (fun q u1 u2 => f2.lo (fun v => by unfold bK at v; omega)), ?_, ?_, cn, i5, ?_⟩
  · rw [hB2.2.2.2.2.1, ← cn]
  · rw [f2.lo (fun v => by unfold bK at v; omega)]; exact x3
  · obtain ⟨q, r, e1, e2⟩ := hd2
    rw [pn] at hl2
    subst e1
    have : r.length + 1 = 0 + 1 := hl2
    have r0 : r = [] := List.length_eq_zero_iff.mp (by omega)
    subst r0
    exact RKp_RK hB2.2.2.2.2.2 e2
