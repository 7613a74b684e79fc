theorem rabs_iabs (x y : Int32) : (if 0 ≤ y - x then y - x else -(y - x)) = iabs (x - y) := by
  have e : y - x = -(x - y) := Int32.neg_sub.symm
  rw [e]
  generalize x - y = z
  unfold iabs
  have e0 : (0 : Int32).toInt = 0 := rfl
  by_cases hm : z = -2147483648
  · rw [hm]; decide
  · have hz : z.toInt ≠ -2147483648 := fun q => hm (Int32.toInt_inj.mp (by rw [q]; rfl))
    have h1 := Int32.le_toInt z
    have h2 := Int32.toInt_lt z
    have en : (-z).toInt = -z.toInt := by
      rw [Int32.toInt_neg]
      exact Int.bmod_eq_of_le (by omega) (by omega)
    by_cases a : 0 ≤ z
    · rw [if_pos a]
      have a' := Int32.le_iff_toInt_le.mp a
      by_cases b : 0 ≤ -z
      · rw [if_pos b]
        have b' := Int32.le_iff_toInt_le.mp b
        apply Int32.toInt_inj.mp
        omega
      · rw [if_neg b]; exact Int32.neg_neg
    · rw [if_neg a]
      have a' : ¬ (0 : Int32).toInt ≤ z.toInt := fun q => a (Int32.le_iff_toInt_le.mpr q)
      rw [if_pos (Int32.le_iff_toInt_le.mpr (by omega))]
      exact (Int32.zero_sub z).symm
theorem p_apartFrom12 {K : zQ} {I : zI} {L : zJ} {P : zP} {T : aT} {h : Nat} {g : Nat → Int32} (hT : RT I T) (hh : h < T.1 0) (hg : ∀ k, k < 6 → I 87 0 k = g k) (hK : K [.inl (farf T g h)] (I, L, P)) : mX12_apartFrom K [.inr (.inr (12, 0)), .inl (nI h)] (I, L, P) := by
  have h6 := hT.h6
  show bX12_apartFrom_4 K [some (.inr (.inr (12, 0))), some (.inl (nI h)), some (.inl 0), some (.inl 0), none] [] (I, L, P)
  refine zinv 6 (fun n Z M => ∃ z4 : Option zV, Z = [some (.inr (.inr (12, 0))), some (.inl (nI h)), some (.inl (apn (fun k => T.2.1 3 (6 * h + k) - g k) n)), some (.inl (nI n)), z4] ∧ M = (I, L, P)) ?_ ?_ ⟨none, rfl, rfl⟩
  · rintro n Z M hn ⟨z4, rfl, rfl⟩ self hself
    dsimp only [x_int, x_lng, x_ild, x_lld, x_ald, x_ist, x_ast, x_lst, x_inc, x_ii, x_id, x_i, x_ll, x_ld, x_l, x_cmp, x_i2l, x_l2i, x_if, x_ic, x_dup, x_pop, x_dup2, x_gI, x_gL, x_gR, x_g1, x_g0, x_gP, x_pI, x_pZ, x_pL, x_pP, x_al, x_as, x_all, x_asl, x_alr, x_len, x_cpy, x_m2, x_m1, x_m2l, x_m1l, x_call, x_cv, x_ri, x_rz, x_rl, x_rv, zg, zset, zbef, zlong, zcat, cond_true, cond_false, List.take, List.drop, rv1, rv2, rv3, rv4, rv5, rv6, rv7, sm0, sm1, bl0, bl1, bl2, bl3, bl4, bl5, bl6, bl7, bl8, List.nil_append, List.cons_append, List.length_cons, List.length_nil, Nat.reduceBEq, Nat.reduceAdd, Nat.reduceSub, ta, tb, tn0, tn1, tn2, tn3, tn4, tn5, tn6, tn7, tn8, tn9, tn10, tn11, tn12, zk_87, zl_87, zk_58, zl_58, bX12_apartFrom_44]
    rw [n6, n_cl (n := n) (by omega), n_cl (n := 6 * h + n) (by omega), (hT.hand hh).2.2.2 n hn, hg n hn, n_succ]
    have e := rabs_iabs (T.2.1 3 (6 * h + n)) (g n)
    refine ⟨fun c => absurd c (lt_go (n := 6) rfl (by omega) hn), fun _ => ⟨n_zin (by omega) (by decide), n_zin (by omega) (by decide), fun c => ?_, fun c => ?_⟩⟩
    · rw [if_pos c] at e
      refine hself _ _ ⟨some (.inl (g n - T.2.1 3 (6 * h + n))), ?_, rfl⟩
      rw [e]; rfl
    · rw [if_neg c] at e
      refine hself _ _ ⟨some (.inl (g n - T.2.1 3 (6 * h + n))), ?_, rfl⟩
      rw [e]; rfl
  · rintro Z M ⟨z4, rfl, rfl⟩ self
    dsimp only [x_int, x_lng, x_ild, x_lld, x_ald, x_ist, x_ast, x_lst, x_inc, x_ii, x_id, x_i, x_ll, x_ld, x_l, x_cmp, x_i2l, x_l2i, x_if, x_ic, x_dup, x_pop, x_dup2, x_gI, x_gL, x_gR, x_g1, x_g0, x_gP, x_pI, x_pZ, x_pL, x_pP, x_al, x_as, x_all, x_asl, x_alr, x_len, x_cpy, x_m2, x_m1, x_m2l, x_m1l, x_call, x_cv, x_ri, x_rz, x_rl, x_rv, zg, zset, zbef, zlong, zcat, cond_true, cond_false, List.take, List.drop, rv1, rv2, rv3, rv4, rv5, rv6, rv7, sm0, sm1, bl0, bl1, bl2, bl3, bl4, bl5, bl6, bl7, bl8, List.nil_append, List.cons_append, List.length_cons, List.length_nil, Nat.reduceBEq, Nat.reduceAdd, Nat.reduceSub, ta, tb, tn0, tn1, tn2, tn3, tn4, tn5, tn6, tn7, tn8, tn9, tn10, tn11, tn12]
    exact ⟨fun _ => hK, fun c => absurd c (lt_out (n := 6) rfl)⟩
/-- small beats are near -/
theorem apn_small {d : Nat → Int32} {n : Nat} (h : ∀ k, k < n → ∃ x y : Nat, x ≤ 9 ∧ y ≤ 9 ∧ d k = nI x - nI y) : ∃ m, m ≤ 9 * n ∧ apn d n = nI m := by
  induction n with
  | zero => exact ⟨0, by omega, rfl⟩
  | succ n ih =>
    obtain ⟨m, h1, h2⟩ := ih (fun k hk => h k (by omega))
    obtain ⟨x, y, hx, hy, e⟩ := h n (by omega)
    show ∃ m, _ ∧ apn d n + iabs (d n) = nI m
    rw [h2, e]
    have hi : ∃ q, q ≤ 9 ∧ iabs (nI x - nI y) = nI q := by
      have h9 : ∀ x, x ≤ 9 → ∀ y, y ≤ 9 → ∃ q, q ≤ 9 ∧ iabs (nI x - nI y) = nI q := by
        intro x hx y hy
        refine ⟨if y ≤ x then x - y else y - x, by split <;> omega, ?_⟩
        have : ∀ x, x < 10 → ∀ y, y < 10 → iabs (nI x - nI y) = nI (if y ≤ x then x - y else y - x) := by decide +kernel
        exact this x (by omega) y (by omega)
      exact h9 x hx y hy
    obtain ⟨q, hq, e2⟩ := hi
    exact ⟨m + q, by omega, by rw [e2, n_add]⟩
def gSm (g : Nat → Int32) : Prop := ∀ k, k < 6 → ∃ y, y ≤ 9 ∧ g k = nI y
theorem farf_small {T : aT} {g : Nat → Int32} (wT : WT T) (hg : gSm g) {b : Nat} (hb : b < T.1 0) : ∃ m, m ≤ 54 ∧ farf T g b = nI m := apn_small (fun k hk => by
  obtain ⟨x, -, hx, ex⟩ := wT.2.1 b hb k hk
  obtain ⟨y, hy, ey⟩ := hg k hk
  exact ⟨x, y, by omega, hy, by show T.2.1 3 (6 * b + k) - g k = _; rw [ex, ey]⟩)
def wbR (o : Option Nat) : Int32 := match o with
  | none => -1
  | some b => nI b
theorem wbR_neg {o : Option Nat} (h : ∀ b, o = some b → b < 2147483648) : wbR o < 0 ↔ o = none := by
  cases o with
  | none => exact ⟨fun _ => rfl, fun _ => by decide⟩
  | some b =>
    constructor
    · intro q
      have q : nI b < nI 0 := q
      rw [n_lt (h b rfl) (by omega)] at q
      omega
    · intro q; cases q
theorem p_boundBy {K : zQ} {I : zI} {L : zJ} {P : zP} {b : Nat} {T : aT} {S : aS} {w : Nat} {g : Nat → Int32} (hb : b < 2) (hT : RT I T) (hS : RS I b T S) (wT : WT T) (hlk : 0 ≤ S 13 0 ∧ S 13 0 ≤ 30) (hw : w < T.1 1) (hg : ∀ k, k < 6 → I 87 0 k = g k) (hgs : gSm g)
    (hK : ∀ (I' : zI) (L' : zJ), frE I I' → zeLr L L' → K [.inl (wbR (whof T S w g))] (I', L', P)) : mX12_boundBy K [.inr (.inr (12, 0)), .inl (nI b), .inl (nI w)] (I, L, P) := by
  have h6 := hT.h6
  have w4 := hT.w4
  have fmax : ∀ n, n < T.1 0 → ¬ 2147483647 ≤ farf T g n := fun n hn q => by
    obtain ⟨m, h1, h2⟩ := farf_small wT hgs hn
    rw [h2, show (2147483647 : Int32) = nI 2147483647 from rfl, n_le (by omega) (by omega)] at q
    omega
  have lim : ∀ n, n ≤ T.1 0 → ∀ x, wb (farf T g) n = some x → x < 2147483648 := fun n hn x e => by have := wb_lt e; omega
  show bX12_boundBy_5 K [some (.inr (.inr (12, 0))), some (.inl (nI b)), some (.inl (nI w)), some (.inl (-1)), some (.inl 0)] [] (I, L, P)
  refine zinv (T.1 0) (fun n Z M => Z = [some (.inr (.inr (12, 0))), some (.inl (nI b)), some (.inl (nI w)), some (.inl (wbR (wb (farf T g) n))), some (.inl (nI n))] ∧ M = (I, L, P)) ?_ ?_ ⟨rfl, rfl⟩
  · rintro n Z M hn ⟨rfl, rfl⟩ self hself
    dsimp only [x_int, x_lng, x_ild, x_lld, x_ald, x_ist, x_ast, x_lst, x_inc, x_ii, x_id, x_i, x_ll, x_ld, x_l, x_cmp, x_i2l, x_l2i, x_if, x_ic, x_dup, x_pop, x_dup2, x_gI, x_gL, x_gR, x_g1, x_g0, x_gP, x_pI, x_pZ, x_pL, x_pP, x_al, x_as, x_all, x_asl, x_alr, x_len, x_cpy, x_m2, x_m1, x_m2l, x_m1l, x_call, x_cv, x_ri, x_rz, x_rl, x_rv, zg, zset, zbef, zlong, zcat, cond_true, cond_false, List.take, List.drop, rv1, rv2, rv3, rv4, rv5, rv6, rv7, sm0, sm1, bl0, bl1, bl2, bl3, bl4, bl5, bl6, bl7, bl8, List.nil_append, List.cons_append, List.length_cons, List.length_nil, Nat.reduceBEq, Nat.reduceAdd, Nat.reduceSub, ta, tb, tn0, tn1, tn2, tn3, tn4, tn5, tn6, tn7, tn8, tn9, tn10, tn11, tn12, bX12_boundBy_32, bX12_boundBy_38]
    refine ⟨fun c => absurd c (lt_go hT.1.1 (by omega) hn), fun _ => ⟨fun c => ?_, fun c => ?_⟩⟩
    · have e := (wbR_neg (lim n (by omega))).mp c
      rw [n_succ]
      refine hself _ _ ⟨?_, rfl⟩
      rw [wb_succ, e, if_neg (show ¬ wbL (farf T g) none ≤ farf T g n from fmax n hn)]
      rfl
    · cases e : wb (farf T g) n with
      | none => rw [e] at c; exact absurd (by decide) c
      | some x =>
        have hx := wb_lt e
        refine p_apartFrom12 hT hn hg ?_
        dsimp only [x_int, x_lng, x_ild, x_lld, x_ald, x_ist, x_ast, x_lst, x_inc, x_ii, x_id, x_i, x_ll, x_ld, x_l, x_cmp, x_i2l, x_l2i, x_if, x_ic, x_dup, x_pop, x_dup2, x_gI, x_gL, x_gR, x_g1, x_g0, x_gP, x_pI, x_pZ, x_pL, x_pP, x_al, x_as, x_all, x_asl, x_alr, x_len, x_cpy, x_m2, x_m1, x_m2l, x_m1l, x_call, x_cv, x_ri, x_rz, x_rl, x_rv, zg, zset, zbef, zlong, zcat, cond_true, cond_false, List.take, List.drop, rv1, rv2, rv3, rv4, rv5, rv6, rv7, sm0, sm1, bl0, bl1, bl2, bl3, bl4, bl5, bl6, bl7, bl8, List.nil_append, List.cons_append, List.length_cons, List.length_nil, Nat.reduceBEq, Nat.reduceAdd, Nat.reduceSub, ta, tb, tn0, tn1, tn2, tn3, tn4, tn5, tn6, tn7, tn8, tn9, tn10, tn11, tn12, bX12_boundBy_32, bX12_boundBy_38]
        refine p_apartFrom12 (h := x) hT (by omega) hg ?_
        dsimp only [x_int, x_lng, x_ild, x_lld, x_ald, x_ist, x_ast, x_lst, x_inc, x_ii, x_id, x_i, x_ll, x_ld, x_l, x_cmp, x_i2l, x_l2i, x_if, x_ic, x_dup, x_pop, x_dup2, x_gI, x_gL, x_gR, x_g1, x_g0, x_gP, x_pI, x_pZ, x_pL, x_pP, x_al, x_as, x_all, x_asl, x_alr, x_len, x_cpy, x_m2, x_m1, x_m2l, x_m1l, x_call, x_cv, x_ri, x_rz, x_rl, x_rv, zg, zset, zbef, zlong, zcat, cond_true, cond_false, List.take, List.drop, rv1, rv2, rv3, rv4, rv5, rv6, rv7, sm0, sm1, bl0, bl1, bl2, bl3, bl4, bl5, bl6, bl7, bl8, List.nil_append, List.cons_append, List.length_cons, List.length_nil, Nat.reduceBEq, Nat.reduceAdd, Nat.reduceSub, ta, tb, tn0, tn1, tn2, tn3, tn4, tn5, tn6, tn7, tn8, tn9, tn10, tn11, tn12, bX12_boundBy_32, bX12_boundBy_38]
        rw [n_succ]
        refine ⟨fun d => hself _ _ ⟨?_, rfl⟩, fun d => hself _ _ ⟨?_, rfl⟩⟩
        · rw [wb_succ, e, if_pos (show wbL (farf T g) (some x) ≤ farf T g n from d)]
        · rw [wb_succ, e, if_neg (show ¬ wbL (farf T g) (some x) ≤ farf T g n from d)]
          rfl
  · rintro Z M ⟨rfl, rfl⟩ self
    dsimp only [x_int, x_lng, x_ild, x_lld, x_ald, x_ist, x_ast, x_lst, x_inc, x_ii, x_id, x_i, x_ll, x_ld, x_l, x_cmp, x_i2l, x_l2i, x_if, x_ic, x_dup, x_pop, x_dup2, x_gI, x_gL, x_gR, x_g1, x_g0, x_gP, x_pI, x_pZ, x_pL, x_pP, x_al, x_as, x_all, x_asl, x_alr, x_len, x_cpy, x_m2, x_m1, x_m2l, x_m1l, x_call, x_cv, x_ri, x_rz, x_rl, x_rv, zg, zset, zbef, zlong, zcat, cond_true, cond_false, List.take, List.drop, rv1, rv2, rv3, rv4, rv5, rv6, rv7, sm0, sm1, bl0, bl1, bl2, bl3, bl4, bl5, bl6, bl7, bl8, List.nil_append, List.cons_append, List.length_cons, List.length_nil, Nat.reduceBEq, Nat.reduceAdd, Nat.reduceSub, ta, tb, tn0, tn1, tn2, tn3, tn4, tn5, tn6, tn7, tn8, tn9, tn10, tn11, tn12]
    refine ⟨fun _ => ⟨fun c => ?_, fun c => ?_⟩, fun c => absurd c (lt_out hT.1.1)⟩
    · cases e : wb (farf T g) (T.1 0) with
      | none => rw [e] at c; exact absurd c (by decide)
      | some x =>
        have hx := wb_lt e
        have hK : ∀ (I' : zI) (L' : zJ), frE I I' → zeLr L L' → K [.inl (wbR (if rch T S x w (farf T g x) < farf T g x then none else some x))] (I', L', P) := fun I' L' h1 h2 => by
          have := hK I' L' h1 h2
          unfold whof at this
          rw [e] at this
          exact this
        refine p_apartFrom12 hT hx hg ?_
        dsimp only [x_int, x_lng, x_ild, x_lld, x_ald, x_ist, x_ast, x_lst, x_inc, x_ii, x_id, x_i, x_ll, x_ld, x_l, x_cmp, x_i2l, x_l2i, x_if, x_ic, x_dup, x_pop, x_dup2, x_gI, x_gL, x_gR, x_g1, x_g0, x_gP, x_pI, x_pZ, x_pL, x_pP, x_al, x_as, x_all, x_asl, x_alr, x_len, x_cpy, x_m2, x_m1, x_m2l, x_m1l, x_call, x_cv, x_ri, x_rz, x_rl, x_rv, zg, zset, zbef, zlong, zcat, cond_true, cond_false, List.take, List.drop, rv1, rv2, rv3, rv4, rv5, rv6, rv7, sm0, sm1, bl0, bl1, bl2, bl3, bl4, bl5, bl6, bl7, bl8, List.nil_append, List.cons_append, List.length_cons, List.length_nil, Nat.reduceBEq, Nat.reduceAdd, Nat.reduceSub, ta, tb, tn0, tn1, tn2, tn3, tn4, tn5, tn6, tn7, tn8, tn9, tn10, tn11, tn12]
        refine p_layNames hb (by omega) (by omega) (fun L1 e1 n1 => ?_)
        rw [nmv_R hS hx hw] at n1
        dsimp only [x_int, x_lng, x_ild, x_lld, x_ald, x_ist, x_ast, x_lst, x_inc, x_ii, x_id, x_i, x_ll, x_ld, x_l, x_cmp, x_i2l, x_l2i, x_if, x_ic, x_dup, x_pop, x_dup2, x_gI, x_gL, x_gR, x_g1, x_g0, x_gP, x_pI, x_pZ, x_pL, x_pP, x_al, x_as, x_all, x_asl, x_alr, x_len, x_cpy, x_m2, x_m1, x_m2l, x_m1l, x_call, x_cv, x_ri, x_rz, x_rl, x_rv, zg, zset, zbef, zlong, zcat, cond_true, cond_false, List.take, List.drop, rv1, rv2, rv3, rv4, rv5, rv6, rv7, sm0, sm1, bl0, bl1, bl2, bl3, bl4, bl5, bl6, bl7, bl8, List.nil_append, List.cons_append, List.length_cons, List.length_nil, Nat.reduceBEq, Nat.reduceAdd, Nat.reduceSub, ta, tb, tn0, tn1, tn2, tn3, tn4, tn5, tn6, tn7, tn8, tn9, tn10, tn11, tn12, zk_54, zl_54, bX12_boundBy_91, bX12_boundBy_104]
        have hlike := hS.2.2.2.2.1
        unfold likeR at hlike
        have cl : S 13 0 = clm (S 13 0) 30 := by
          unfold clm
          rw [if_neg (Int32.not_lt.mpr hlk.1), if_neg (Int32.not_lt.mpr hlk.2)]
        have fin : ∀ (I2 : zI) (L2 : zJ), frE I I2 → zeLr L L2 → (rch T S x w (farf T g x) < farf T g x → K [.inl (-1)] (I2, L2, P)) ∧ (¬ rch T S x w (farf T g x) < farf T g x → K [.inl (nI x)] (I2, L2, P)) := fun I2 L2 h1 h2 => by
          have hK := hK I2 L2 h1 h2
          refine ⟨fun q => ?_, fun q => ?_⟩
          · rw [if_pos q] at hK; exact hK
          · rw [if_neg q] at hK; exact hK
        refine ⟨fun d => ?_, fun d => ⟨n_zin (i := 0) (by decide) (by decide), ?_⟩⟩
        · rw [if_pos d] at hlike
          refine p_boundLaw (w := 1) (T := T) (o := S 13 0) (nm := anm S x w (farf T g x) 0) (by decide) (hT.law (by decide)) n1 (fun q _ => nmv_inB q) (by decide) (by rw [← cl]; exact hlike) (fun I2 L2 hI2 hL2 => ?_)
          dsimp only [x_int, x_lng, x_ild, x_lld, x_ald, x_ist, x_ast, x_lst, x_inc, x_ii, x_id, x_i, x_ll, x_ld, x_l, x_cmp, x_i2l, x_l2i, x_if, x_ic, x_dup, x_pop, x_dup2, x_gI, x_gL, x_gR, x_g1, x_g0, x_gP, x_pI, x_pZ, x_pL, x_pP, x_al, x_as, x_all, x_asl, x_alr, x_len, x_cpy, x_m2, x_m1, x_m2l, x_m1l, x_call, x_cv, x_ri, x_rz, x_rl, x_rv, zg, zset, zbef, zlong, zcat, cond_true, cond_false, List.take, List.drop, rv1, rv2, rv3, rv4, rv5, rv6, rv7, sm0, sm1, bl0, bl1, bl2, bl3, bl4, bl5, bl6, bl7, bl8, List.nil_append, List.cons_append, List.length_cons, List.length_nil, Nat.reduceBEq, Nat.reduceAdd, Nat.reduceSub, ta, tb, tn0, tn1, tn2, tn3, tn4, tn5, tn6, tn7, tn8, tn9, tn10, tn11, tn12]
          exact fin I2 L2 hI2 (fun a b c q1 q2 => (hL2 a b c q2).trans (e1 a b c q1))
        · rw [if_neg d] at hlike
          refine p_boundLaw (w := 1) (T := T) (o := S 13 0) (nm := anm S x w (farf T g x) 0) (by decide) (hT.law (by decide)) n1 (fun q _ => nmv_inB q) (by decide) (by rw [← cl]; exact hlike) (fun I2 L2 hI2 hL2 => ?_)
          dsimp only [x_int, x_lng, x_ild, x_lld, x_ald, x_ist, x_ast, x_lst, x_inc, x_ii, x_id, x_i, x_ll, x_ld, x_l, x_cmp, x_i2l, x_l2i, x_if, x_ic, x_dup, x_pop, x_dup2, x_gI, x_gL, x_gR, x_g1, x_g0, x_gP, x_pI, x_pZ, x_pL, x_pP, x_al, x_as, x_all, x_asl, x_alr, x_len, x_cpy, x_m2, x_m1, x_m2l, x_m1l, x_call, x_cv, x_ri, x_rz, x_rl, x_rv, zg, zset, zbef, zlong, zcat, cond_true, cond_false, List.take, List.drop, rv1, rv2, rv3, rv4, rv5, rv6, rv7, sm0, sm1, bl0, bl1, bl2, bl3, bl4, bl5, bl6, bl7, bl8, List.nil_append, List.cons_append, List.length_cons, List.length_nil, Nat.reduceBEq, Nat.reduceAdd, Nat.reduceSub, ta, tb, tn0, tn1, tn2, tn3, tn4, tn5, tn6, tn7, tn8, tn9, tn10, tn11, tn12]
          exact fin I2 L2 hI2 (fun a b c q1 q2 => (hL2 a b c q2).trans (e1 a b c q1))
    · have e : wb (farf T g) (T.1 0) = none := (wbR_neg (lim _ (Nat.le_refl _))).mp (Int32.not_le.mp c)
      have := hK I L frE.rf (fun _ _ _ _ _ => rfl)
      unfold whof at this
      rw [e] at this
      exact this
