-- THE REFERENCE: its laws are knots
def bnd (e : Int32) (n : Int64) : Int64 × Int32 := if ¬ e = 0 then (0, 1) else if 1000000000000 < n then (0, 1) else if -1000000000000 ≤ n then (n, 0) else (0, 1)
def rab (x : Int64) : Int64 := if 0 ≤ x then x else -x
def tms (e : Int32) (a b : Int64) : Int64 × Int32 := if ¬ e = 0 then (0, 1) else if a = 0 then (a * b, 0) else if b = 0 then (a * b, 0) else if rab b ≤ 1000000000000 / rab a then (a * b, 0) else (0, 1)
abbrev sEr : Nat := 49
def frE (I I' : zI) : Prop := ∀ a b c, ¬ (a = 12 ∧ b = 0 ∧ c = 49) → I' a b c = I a b c
theorem frE.rf {I : zI} : frE I I := fun _ _ _ _ => rfl
theorem frE.tr {I I1 I2 : zI} (h : frE I I1) (h2 : frE I1 I2) : frE I I2 := fun a b c q => (h2 a b c q).trans (h a b c q)
theorem frE_set {I : zI} {L : zJ} {P : zP} {v : Int32} : frE I (zsI (I, L, P) 12 0 49 v).1 := fun a b c q => by simp only [zsI, q, if_false]
theorem frE_get {I : zI} {L : zJ} {P : zP} {v : Int32} : (zsI (I, L, P) 12 0 49 v).1 12 0 49 = v := by simp [zsI]
theorem p_bounded {K : zQ} {I : zI} {L : zJ} {P : zP} {n : Int64} (hK : ∀ I' : zI, frE I I' → I' 12 0 49 = (bnd (I 12 0 49) n).2 → K [.inr (.inl (bnd (I 12 0 49) n).1)] (I', L, P)) : mX12_bounded K [.inr (.inr (12, 0)), .inr (.inl n)] (I, L, P) := by
  have k1 : bnd (I 12 0 49) n = (0, 1) → K [.inr (.inl 0)] (zsI (I, L, P) 12 0 49 1) := fun e => by
    have := hK (zsI (I, L, P) 12 0 49 1).1 frE_set (by rw [frE_get, e])
    rw [e] at this; exact this
  have k0 : bnd (I 12 0 49) n = (n, 0) → K [.inr (.inl n)] (zsI (I, L, P) 12 0 49 0) := fun e => by
    have := hK (zsI (I, L, P) 12 0 49 0).1 frE_set (by rw [frE_get, e])
    rw [e] at this; exact this
  show bX12_bounded_0 K [some (.inr (.inr (12,0))), some (.inr (.inl n)), none] [] (I, L, P)
  unfold bX12_bounded_0
  dsimp only [x_int, x_lng, x_ild, x_lld, x_ald, x_ist, x_ast, x_lst, x_inc, x_ii, x_id, x_i, x_ll, x_ld, x_l, x_cmp, x_i2l, x_l2i, x_if, x_ic, x_dup, x_pop, x_dup2, x_gI, x_gL, x_gR, x_g1, x_g0, x_gP, x_pI, x_pZ, x_pL, x_pP, x_al, x_as, x_all, x_asl, x_alr, x_len, x_cpy, x_m2, x_m1, x_m2l, x_m1l, x_call, x_cv, x_ri, x_rz, x_rl, x_rv, zg, zset, zbef, zlong, zcat, cond_true, cond_false, List.take, List.drop, rv1, rv2, rv3, rv4, rv5, rv6, rv7, sm0, sm1, bl0, bl1, bl2, bl3, bl4, bl5, bl6, bl7, bl8, List.nil_append, List.cons_append, List.length_cons, List.length_nil, Nat.reduceBEq, Nat.reduceAdd, Nat.reduceSub, ta, tb, tn0, tn1, tn2, tn3, tn4, tn5, tn6, tn7, tn8, tn9, tn10, tn11, tn12, bX12_bounded_24, bX12_bounded_29, bX12_bounded_44]
  rw [frE_get, frE_get]
  simp only [lc_gt, lc_ge]
  unfold bnd at k0 k1
  refine ⟨fun c => ⟨fun d => ?_, fun d => ⟨fun f => ?_, fun f => ?_⟩⟩, fun c => ?_⟩
  · exact ⟨Or.inr rfl, fun q => absurd q (by decide), fun _ => k1 (by rw [if_neg (fun q => q c), if_pos d])⟩
  · exact ⟨Or.inl rfl, fun _ => k0 (by rw [if_neg (fun q => q c), if_neg d, if_pos f]), fun q => absurd trivial q⟩
  · exact ⟨Or.inr rfl, fun q => absurd q (by decide), fun _ => k1 (by rw [if_neg (fun q => q c), if_neg d, if_neg f])⟩
  · exact ⟨Or.inr rfl, fun q => absurd q (by decide), fun _ => k1 (by rw [if_pos c])⟩
theorem rab_ne {a : Int64} (h : ¬ a = 0) : ¬ rab a = 0 := by
  unfold rab
  split
  · exact h
  · intro q
    apply h
    have := congrArg (fun x => -x) q
    simpa using this
theorem p_times {K : zQ} {I : zI} {L : zJ} {P : zP} {x y : Int64} (hK : ∀ I' : zI, frE I I' → I' 12 0 49 = (tms (I 12 0 49) x y).2 → K [.inr (.inl (tms (I 12 0 49) x y).1)] (I', L, P)) : mX12_times K [.inr (.inr (12, 0)), .inr (.inl x), .inr (.inl y)] (I, L, P) := by
  have k1 : tms (I 12 0 49) x y = (0, 1) → K [.inr (.inl 0)] (zsI (I, L, P) 12 0 49 1) := fun e => by
    have := hK (zsI (I, L, P) 12 0 49 1).1 frE_set (by rw [frE_get, e])
    rw [e] at this; exact this
  have k0 : tms (I 12 0 49) x y = (x * y, 0) → K [.inr (.inl (x * y))] (zsI (I, L, P) 12 0 49 0) := fun e => by
    have := hK (zsI (I, L, P) 12 0 49 0).1 frE_set (by rw [frE_get, e])
    rw [e] at this; exact this
  -- behind 'much'
  have t49 : ∀ (mu : Int32), (mu = 0 → ¬ (I 12 0 49 = 0) → tms (I 12 0 49) x y = (0, 1)) → (mu = 0 → I 12 0 49 = 0 → tms (I 12 0 49) x y = (x * y, 0)) → (¬ mu = 0 → tms (I 12 0 49) x y = (0, 1)) → bX12_times_49 K [some (.inr (.inr (12, 0))), some (.inr (.inl x)), none, some (.inr (.inl y)), none, none] [.inl mu] (I, L, P) := by
    intro mu h1 h2 h3
    unfold bX12_times_49
    dsimp only [x_int, x_lng, x_ild, x_lld, x_ald, x_ist, x_ast, x_lst, x_inc, x_ii, x_id, x_i, x_ll, x_ld, x_l, x_cmp, x_i2l, x_l2i, x_if, x_ic, x_dup, x_pop, x_dup2, x_gI, x_gL, x_gR, x_g1, x_g0, x_gP, x_pI, x_pZ, x_pL, x_pP, x_al, x_as, x_all, x_asl, x_alr, x_len, x_cpy, x_m2, x_m1, x_m2l, x_m1l, x_call, x_cv, x_ri, x_rz, x_rl, x_rv, zg, zset, zbef, zlong, zcat, cond_true, cond_false, List.take, List.drop, rv1, rv2, rv3, rv4, rv5, rv6, rv7, sm0, sm1, bl0, bl1, bl2, bl3, bl4, bl5, bl6, bl7, bl8, List.nil_append, List.cons_append, List.length_cons, List.length_nil, Nat.reduceBEq, Nat.reduceAdd, Nat.reduceSub, ta, tb, tn0, tn1, tn2, tn3, tn4, tn5, tn6, tn7, tn8, tn9, tn10, tn11, tn12, bX12_times_64, bX12_times_69, bX12_times_86]
    rw [frE_get, frE_get]
    refine ⟨fun c => ⟨fun d => ⟨Or.inl rfl, fun _ => k0 (h2 d c), fun q => absurd rfl q⟩, fun d => ⟨Or.inr rfl, fun q => absurd q (by decide), fun _ => k1 (h3 d)⟩⟩, fun c => ⟨Or.inr rfl, fun q => absurd q (by decide), fun _ => k1 ?_⟩⟩
    by_cases d : mu = 0
    · exact h1 d c
    · exact h3 d
  unfold tms at t49
  show bX12_times_0 K [some (.inr (.inr (12,0))), some (.inr (.inl x)), none, some (.inr (.inl y)), none, none] [] (I, L, P)
  unfold bX12_times_0
  dsimp only [x_int, x_lng, x_ild, x_lld, x_ald, x_ist, x_ast, x_lst, x_inc, x_ii, x_id, x_i, x_ll, x_ld, x_l, x_cmp, x_i2l, x_l2i, x_if, x_ic, x_dup, x_pop, x_dup2, x_gI, x_gL, x_gR, x_g1, x_g0, x_gP, x_pI, x_pZ, x_pL, x_pP, x_al, x_as, x_all, x_asl, x_alr, x_len, x_cpy, x_m2, x_m1, x_m2l, x_m1l, x_call, x_cv, x_ri, x_rz, x_rl, x_rv, zg, zset, zbef, zlong, zcat, cond_true, cond_false, List.take, List.drop, rv1, rv2, rv3, rv4, rv5, rv6, rv7, sm0, sm1, bl0, bl1, bl2, bl3, bl4, bl5, bl6, bl7, bl8, List.nil_append, List.cons_append, List.length_cons, List.length_nil, Nat.reduceBEq, Nat.reduceAdd, Nat.reduceSub, ta, tb, tn0, tn1, tn2, tn3, tn4, tn5, tn6, tn7, tn8, tn9, tn10, tn11, tn12, bX12_times_48, bX12_times_24, bX12_times_39]
  simp only [lc_eq, lc_ge, lc_le]
  have hz : ∀ q : Int64, rab q = if 0 ≤ q then q else -q := fun _ => rfl
  have fin : ¬ x = 0 → ¬ y = 0 → ¬ rab x = 0 ∧ (rab y ≤ 1000000000000 / rab x → bX12_times_49 K [some (.inr (.inr (12, 0))), some (.inr (.inl x)), none, some (.inr (.inl y)), none, none] [.inl 0] (I, L, P)) ∧ (¬ rab y ≤ 1000000000000 / rab x → bX12_times_49 K [some (.inr (.inr (12, 0))), some (.inr (.inl x)), none, some (.inr (.inl y)), none, none] [.inl 1] (I, L, P)) := fun hx hy => by
    refine ⟨rab_ne hx, fun c => t49 0 (fun _ q => ?_) (fun _ q => ?_) (fun q => absurd rfl q), fun c => t49 1 (fun q => absurd q (by decide)) (fun q => absurd q (by decide)) (fun _ => ?_)⟩
    · rw [if_pos q]
    · rw [if_neg (fun z => z q), if_neg hx, if_neg hy, if_pos c]
    · by_cases q : I 12 0 49 = 0
      · rw [if_neg (fun z => z q), if_neg hx, if_neg hy, if_neg c]
      · rw [if_pos q]
  refine ⟨fun c => t49 0 (fun _ q => by rw [if_pos q]) (fun _ q => by rw [if_neg (fun z => z q), if_pos c]) (fun q => absurd rfl q), fun c => ⟨fun d => t49 0 (fun _ q => by rw [if_pos q]) (fun _ q => by rw [if_neg (fun z => z q), if_neg c, if_pos d]) (fun q => absurd rfl q), fun d => ?_⟩⟩
  have fin := fin c d
  rw [hz, hz] at fin
  refine ⟨fun g1 => ⟨fun g2 => ?_, fun g2 => ?_⟩, fun g1 => ⟨fun g2 => ?_, fun g2 => ?_⟩⟩
  · rw [if_pos g1, if_pos g2] at fin; exact fin
  · rw [if_pos g1, if_neg g2] at fin; exact fin
  · rw [if_neg g1, if_pos g2] at fin; exact fin
  · rw [if_neg g1, if_neg g2] at fin; exact fin
