theorem n6 (b h : Nat) : (6 : Int32) * nI b + nI h = nI (6 * b + h) := by rw [show (6 : Int32) = nI 6 from rfl, n_mul, n_add]
theorem n10 (b h : Nat) : (10 : Int32) * nI b + nI h = nI (10 * b + h) := by rw [show (10 : Int32) = nI 10 from rfl, n_mul, n_add]
theorem n60 (b r k : Nat) : (60 : Int32) * nI b + (6 : Int32) * nI r + nI k = nI (60 * b + 6 * r + k) := by rw [show (60 : Int32) = nI 60 from rfl, show (6 : Int32) = nI 6 from rfl, n_mul, n_mul, n_add, n_add]
-- clamping
def clm (o m : Int32) : Int32 := if o < 0 then 0 else if m < o then m else o
theorem i64 {x y : Int32} : x.toInt64 < y.toInt64 ↔ x < y := by
  rw [Int64.lt_iff_toInt_lt, Int32.toInt_toInt64, Int32.toInt_toInt64, Int32.lt_iff_toInt_lt]
theorem i640 {x : Int32} : x.toInt64 < 0 ↔ x < 0 := i64 (y := 0)
theorem wi_er {o m : Int32} (hm : 0 ≤ m) : wi zER o m = clm o m := by
  have nm : ¬ m < 0 := Int32.not_lt.mpr hm
  unfold wi clm
  simp only [if_true]
  by_cases h1 : o < 0
  · have a : o < m := Int32.lt_of_lt_of_le h1 hm
    rw [if_pos h1, if_pos (i64.mpr a), if_pos (i640.mpr h1)]
    rfl
  · rw [if_neg h1]
    by_cases h2 : m < o
    · have a : ¬ o < m := fun q => Int32.lt_irrefl (Int32.lt_trans q h2)
      rw [if_pos h2, if_neg (fun q => a (i64.mp q)), if_neg (fun q => nm (i640.mp q)), Int32.toInt32_toInt64]
    · rw [if_neg h2]
      by_cases h3 : o < m
      · rw [if_pos (i64.mpr h3), if_neg (fun q => h1 (i640.mp q)), Int32.toInt32_toInt64]
      · have e : o = m := Int32.le_antisymm (Int32.not_lt.mp h2) (Int32.not_lt.mp h3)
        rw [if_neg (fun q => h3 (i64.mp q)), if_neg (fun q => nm (i640.mp q)), Int32.toInt32_toInt64, e]
theorem wi_ok {v : Int64} {o m : Int32} (hm : 0 ≤ m) (h : ¬ v = zER) : wi v o m = if v < 0 then 0 else if m.toInt64 < v then m else v.toInt32 := by
  have nm : ¬ m.toInt64 < 0 := fun q => Int32.not_lt.mpr hm (i640.mp q)
  unfold wi
  simp only [if_neg h]
  by_cases h1 : v < 0
  · have a : v < m.toInt64 := Int64.lt_of_lt_of_le h1 (Int64.not_lt.mp nm)
    rw [if_pos a, if_pos h1, if_pos h1]
    rfl
  · by_cases h2 : m.toInt64 < v
    · have a : ¬ v < m.toInt64 := fun q => Int64.lt_irrefl (Int64.lt_trans q h2)
      rw [if_neg a, if_neg nm, if_neg h1, if_pos h2, Int32.toInt32_toInt64]
    · by_cases h3 : v < m.toInt64
      · rw [if_pos h3, if_neg h1, if_neg h1, if_neg h2]
      · have e : v = m.toInt64 := Int64.le_antisymm (Int64.not_lt.mp h2) (Int64.not_lt.mp h3)
        rw [if_neg h3, if_neg nm, if_neg h1, if_neg h2, e]
def RLw (I : zI) (T : aT) (w : Nat) : Prop := (T.2.2 w = [] ∧ I 66 0 w = 0) ∨ (I 66 0 w = 1 ∧ ∃ a, I 67 0 w = nI a ∧ I 68 0 w = nI (a + (T.2.2 w).length) ∧ a + (T.2.2 w).length ≤ 64 ∧ RK I (T.2.2 w) a [])
theorem p_boundLaw {K : zQ} {I : zI} {L : zJ} {P : zP} {T : aT} {w : Nat} {o wo m : Int32} {nm : Nat → Int64} (hw : w < 3) (hR : RLw I T w) (hn : ∀ q, q < 7 → L 74 0 q = nm q) (hnB : ∀ q, q < 7 → inB (nm q)) (hm : 0 ≤ m) (hwo : wo = clm o m)
    (hK : ∀ (I' : zI) (L' : zJ), frE I I' → zeL L L' 75 → K [.inl (wi (lev nm (T.2.2 w) []) o m)] (I', L', P)) : mX12_boundLaw K [.inr (.inr (12, 0)), .inl (nI w), .inl wo, .inl m] (I, L, P) := by
  have zw : zin (nI w) 6 := n_zin (by omega) (by decide)
  show bX12_boundLaw_0 K [some (.inr (.inr (12,0))), some (.inl (nI w)), some (.inl wo), some (.inl m), none, none] [] (I, L, P)
  unfold bX12_boundLaw_0
  dsimp only [x_int, x_lng, x_ild, x_lld, x_ald, x_ist, x_ast, x_lst, x_inc, x_ii, x_id, x_i, x_ll, x_ld, x_l, x_cmp, x_i2l, x_l2i, x_if, x_ic, x_dup, x_pop, x_dup2, x_gI, x_gL, x_gR, x_g1, x_g0, x_gP, x_pI, x_pZ, x_pL, x_pP, x_al, x_as, x_all, x_asl, x_alr, x_len, x_cpy, x_m2, x_m1, x_m2l, x_m1l, x_call, x_cv, x_ri, x_rz, x_rl, x_rv, zg, zset, zbef, zlong, zcat, cond_true, cond_false, List.take, List.drop, rv1, rv2, rv3, rv4, rv5, rv6, rv7, sm0, sm1, bl0, bl1, bl2, bl3, bl4, bl5, bl6, bl7, bl8, List.nil_append, List.cons_append, List.length_cons, List.length_nil, Nat.reduceBEq, Nat.reduceAdd, Nat.reduceSub, ta, tb, tn0, tn1, tn2, tn3, tn4, tn5, tn6, tn7, tn8, tn9, tn10, tn11, tn12, zk_66, zl_66, bX12_boundLaw_53]
  rw [n_cl (n := w) (by omega)]
  rcases hR with ⟨h1, h2⟩ | ⟨h1, a, h2, h3, h4, h5⟩
  · rw [h2]
    refine ⟨zw, fun _ => ?_, fun q => absurd rfl q⟩
    have := hK I L frE.rf (fun _ _ _ _ => rfl)
    rw [h1, show lev nm [] [] = zER from rfl, wi_er hm] at this
    rw [hwo]; exact this
  · rw [h1]
    refine ⟨zw, fun q => absurd q (by decide), fun _ => p_lawOf hw h2 h3 h5 h4 hn hnB (fun I' L' v hI hL hv => ?_)⟩
    dsimp only [x_int, x_lng, x_ild, x_lld, x_ald, x_ist, x_ast, x_lst, x_inc, x_ii, x_id, x_i, x_ll, x_ld, x_l, x_cmp, x_i2l, x_l2i, x_if, x_ic, x_dup, x_pop, x_dup2, x_gI, x_gL, x_gR, x_g1, x_g0, x_gP, x_pI, x_pZ, x_pL, x_pP, x_al, x_as, x_all, x_asl, x_alr, x_len, x_cpy, x_m2, x_m1, x_m2l, x_m1l, x_call, x_cv, x_ri, x_rz, x_rl, x_rv, zg, zset, zbef, zlong, zcat, cond_true, cond_false, List.take, List.drop, rv1, rv2, rv3, rv4, rv5, rv6, rv7, sm0, sm1, bl0, bl1, bl2, bl3, bl4, bl5, bl6, bl7, bl8, List.nil_append, List.cons_append, List.length_cons, List.length_nil, Nat.reduceBEq, Nat.reduceAdd, Nat.reduceSub, ta, tb, tn0, tn1, tn2, tn3, tn4, tn5, tn6, tn7, tn8, tn9, tn10, tn11, tn12]
    simp only [lc_ge, lc_le]
    have hK := hK I' L' hI hL
    rcases hv with ⟨g1, g2⟩ | ⟨g1, g2, rfl⟩
    · rw [g2]
      refine ⟨fun q => absurd q (by decide), fun _ => ?_⟩
      rw [g1, wi_er hm] at hK
      rw [hwo]; exact hK
    · rw [g2]
      rw [wi_ok hm g1] at hK
      refine ⟨fun _ => ⟨fun c => ⟨fun d => ?_, fun d => ?_⟩, fun c => ?_⟩, fun q => absurd rfl q⟩
      · rw [if_neg (Int64.not_lt.mpr c), if_neg (Int64.not_lt.mpr d)] at hK; exact hK
      · rw [if_neg (Int64.not_lt.mpr c), if_pos (Int64.not_le.mp d)] at hK; exact hK
      · rw [if_pos (Int64.not_le.mp c)] at hK; exact hK
