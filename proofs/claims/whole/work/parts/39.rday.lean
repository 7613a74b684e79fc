theorem frB_83 {b r : Nat} {I I' : zI} (hr : r < 10) (h : ∀ a i c, ¬ (a = 83 ∧ i = 0 ∧ c = 10 * b + r) → ¬ (a = 12 ∧ i = 0 ∧ c = 49) → I' a i c = I a i c) : frB b I I' := fun a i c q1 q2 => h a i c (fun e => q1 ⟨e.2.1, Or.inr (Or.inl ⟨by omega, by omega, by omega⟩)⟩) q2
theorem zeLr.d {L L' : zJ} (h : zeLr L L') : zeLd L L' := fun a b c q1 q2 _ => h a b c q1 q2
theorem zeLd.tr {L L1 L2 : zJ} (h : zeLd L L1) (h2 : zeLd L1 L2) : zeLd L L2 := fun a b c q1 q2 q3 => (h2 a b c q1 q2 q3).trans (h a b c q1 q2 q3)
theorem aFade_f {T : aT} {S : aS} {n f i : Nat} (h : ¬ (f = 7 ∧ i < n)) : aFade T S n f i = S f i := by
  unfold aFade
  rw [if_neg (fun q => h ⟨q.1, q.2.1⟩)]
theorem aRaps_10 {T : aT} {S : aS} : ∀ n, aRaps T false n S 10 0 = S 10 0 := by
  intro n
  induction n with
  | zero => rfl
  | succ n ih =>
    unfold aRaps
    split
    · have : ∀ (Z : aS) r h w, aRap T Z r h w false 10 0 = Z 10 0 := fun Z r h w => by simp [aRap, nks_false]
      rw [this]; exact ih
    · exact ih
theorem RS.day {M M' : zI} {b : Nat} {T : aT} {S : aS} {v : Int32} (hS : RS M b T S) (e : ∀ a c, rsK a c = true → ¬ (a = 86 ∧ c = b) → M' a 0 c = M a 0 c) (ev : M' 86 0 b = v) : RS M' b T (su S 9 0 v) := by
  have e76 : ∀ c, M' 76 0 c = M 76 0 c := fun c => e 76 c rfl (by simp)
  have e77 : ∀ c, M' 77 0 c = M 77 0 c := fun c => e 77 c rfl (by simp)
  have e78 : ∀ c, M' 78 0 c = M 78 0 c := fun c => e 78 c rfl (by simp)
  have e79 : ∀ c, M' 79 0 c = M 79 0 c := fun c => e 79 c rfl (by simp)
  have e80 : ∀ c, M' 80 0 c = M 80 0 c := fun c => e 80 c rfl (by simp)
  have e81 : ∀ c, M' 81 0 c = M 81 0 c := fun c => e 81 c rfl (by simp)
  have e82 : ∀ c, M' 82 0 c = M 82 0 c := fun c => e 82 c rfl (by simp)
  have e83 : ∀ c, M' 83 0 c = M 83 0 c := fun c => e 83 c rfl (by simp)
  have e84 : ∀ c, M' 84 0 c = M 84 0 c := fun c => e 84 c rfl (by simp)
  have e85 : ∀ c, M' 85 0 c = M 85 0 c := fun c => e 85 c rfl (by simp)
  have e57 : ∀ c, M' 57 0 c = M 57 0 c := fun c => e 57 c rfl (by simp)
  have e61 : ∀ c, M' 61 0 c = M 61 0 c := fun c => e 61 c rfl (by simp)
  have e54 : ∀ c, M' 54 0 c = M 54 0 c := fun c => e 54 c rfl (by simp)
  have f1 : M' 12 0 64 = M 12 0 64 := e 12 _ rfl (by simp)
  have f2 : M' 12 0 65 = M 12 0 65 := e 12 _ rfl (by simp)
  have f3 : M' 12 0 66 = M 12 0 66 := e 12 _ rfl (by simp)
  have f4 : M' 12 0 67 = M 12 0 67 := e 12 _ rfl (by simp)
  have g : ∀ f i, ¬ f = 9 → su S 9 0 v f i = S f i := fun f i q => by simp [su, q]
  obtain ⟨a1, a2, a3, a4, a5, a6⟩ := hS
  unfold coldR agedR at a1
  unfold hardR at a2
  unfold likeR at a5
  refine ⟨fun x hx => ?_, fun x hx => ?_, fun x hx => ?_, ?_, ?_, ?_⟩
  · unfold coldR agedR
    rw [f1, f3, f4, e76, e77, e57, g 0 x (by decide), g 1 x (by decide), g 11 x (by decide)]; exact a1 x hx
  · unfold hardR
    rw [f1, e61, e78, g 12 x (by decide), g 2 x (by decide)]; exact a2 x hx
  · obtain ⟨b1, b2, b3, b4, b5, b6, b7⟩ := a3 x hx
    rw [e79, e80, e81, e82, e83, e84, g 3 x (by decide), g 4 x (by decide), g 5 x (by decide), g 6 x (by decide), g 7 x (by decide)]
    exact ⟨b1, b2, b3, b4, b5, b6, fun q hq => by rw [e85, g 8 _ (by decide)]; exact b7 q hq⟩
  · rw [ev]; simp [su]
  · unfold likeR
    rw [f1, e54, g 13 0 (by decide)]; exact a5
  · rw [f1, f2, g 14 0 (by decide)]; exact a6
set_option maxHeartbeats 2000000 in
theorem p_dayGoes {K : zQ} {I : zI} {L : zJ} {P : zP} {b : Nat} {T : aT} {S : aS} {dr : Bool} (hb : b < 2) (hT : RT I T) (hS : RS I b T S) (wT : WT T) (wS : WS T S) (wQ : WQ T S) (hlk : 0 ≤ S 13 0 ∧ S 13 0 ≤ 30) (hdr : (I 12 0 63 = 0 ∧ dr = false) ∨ (I 12 0 63 = 1 ∧ dr = true)) (hn : RN L dr (S 10 0))
    (hK : ∀ (I' : zI) (L' : zJ), frB b I I' → zeLd L L' → (dr = false → L' 12 0 61 = L 12 0 61) → RN L' dr (aDay T dr true S 10 0) → RS I' b T (aDay T dr true S) → K [] (I', L', P)) : mX12_dayGoes K [.inr (.inr (12, 0)), .inl (nI b)] (I, L, P) := by
  have h6 := hT.h6
  have w4 := hT.w4
  have r10 := hT.r10
  show bX12_dayGoes_2 K [some (.inr (.inr (12, 0))), some (.inl (nI b)), some (.inl 0)] [] (I, L, P)
  refine zinv (T.1 2) (fun n Z M => ∃ (I' : zI) (L' : zJ), Z = [some (.inr (.inr (12, 0))), some (.inl (nI b)), some (.inl (nI n))] ∧ M = (I', L', P) ∧ frB b I I' ∧ zeLd L L' ∧ L' 12 0 61 = L 12 0 61 ∧ RS I' b T (aFade T S n)) ?_ ?_ ⟨I, L, rfl, rfl, frB.rf, fun _ _ _ _ _ _ => rfl, rfl, by rw [aFade_0]; exact hS⟩
  · rintro n Z M hn ⟨I', L', rfl, rfl, hI, hL, hLd, hS'⟩ self hself
    have hT' := hI.RT hT
    obtain ⟨hh, eh⟩ := wT.h h6 hn
    obtain ⟨hw, ew⟩ := wS.w w4 hn
    obtain ⟨q5, q7⟩ := wQ n hn
    obtain ⟨b1, b2, b3, b4, b5, b6, b7⟩ := hS'.2.2.1 n hn
    have e5 : aFade T S n 5 n = S 5 n := aFade_ne (by decide)
    have e7 : aFade T S n 7 n = S 7 n := aFade_f (by omega)
    rw [e5] at b3
    rw [e7] at b5
    have zr : zin (nI (10 * b + n)) 20 := n_zin (by omega) (by decide)
    have skip : ∀ (L2 : zJ), zeLd L L2 → L2 12 0 61 = L 12 0 61 → ¬ (¬ S 5 n = 0 ∧ ¬ S 7 n = 1 ∧ ¬ S 9 0 - S 4 n ≤ fad T S (hnd T n) (wod S n)) → self [some (.inr (.inr (12, 0))), some (.inl (nI b)), some (.inl (nI n + 1))] [] (I', L2, P) := fun L2 h1 h1' h2 => by
      rw [n_succ]
      exact hself _ _ ⟨I', L2, rfl, rfl, hI, h1, h1', by rw [aFade_skip h2]; exact hS'⟩
    dsimp only [x_int, x_lng, x_ild, x_lld, x_ald, x_ist, x_ast, x_lst, x_inc, x_ii, x_id, x_i, x_ll, x_ld, x_l, x_cmp, x_i2l, x_l2i, x_if, x_ic, x_dup, x_pop, x_dup2, x_gI, x_gL, x_gR, x_g1, x_g0, x_gP, x_pI, x_pZ, x_pL, x_pP, x_al, x_as, x_all, x_asl, x_alr, x_len, x_cpy, x_m2, x_m1, x_m2l, x_m1l, x_call, x_cv, x_ri, x_rz, x_rl, x_rv, zg, zset, zbef, zlong, zcat, cond_true, cond_false, List.take, List.drop, rv1, rv2, rv3, rv4, rv5, rv6, rv7, sm0, sm1, bl0, bl1, bl2, bl3, bl4, bl5, bl6, bl7, bl8, List.nil_append, List.cons_append, List.length_cons, List.length_nil, Nat.reduceBEq, Nat.reduceAdd, Nat.reduceSub, ta, tb, tn0, tn1, tn2, tn3, tn4, tn5, tn6, tn7, tn8, tn9, tn10, tn11, tn12, zk_81, zl_81, zk_83, zl_83, bX12_dayGoes_44]
    rw [n10, n_cl (n := 10 * b + n) (by omega), b3, b5]
    refine ⟨fun c => absurd c (lt_go hT'.1.2.2 (by omega) hn), fun _ => ⟨zr, fun c => ?_, fun c => ⟨zr, fun d => ?_, fun d => ?_⟩⟩⟩
    · refine skip L' hL hLd (fun q => q.1 ?_)
      rcases q5 with h | h | h
      · exact h
      · rw [h] at c; exact absurd c (by decide)
      · rw [h] at c; exact absurd c (by decide)
    · have n5 : ¬ S 5 n = 0 := fun q => c (by rw [q]; exact Int32.le_refl _)
      refine p_fades hb hT' hS' wT hn hh hw eh (by rw [aFade_ne (by decide)]; exact ew) (by rw [e5]; exact n5) (fun I2 L2 _ hI2 hL2 hv => ?_)
      rw [fad_fade, aFade_ne (by decide), aFade_ne (by decide)] at hv
      dsimp only [x_int, x_lng, x_ild, x_lld, x_ald, x_ist, x_ast, x_lst, x_inc, x_ii, x_id, x_i, x_ll, x_ld, x_l, x_cmp, x_i2l, x_l2i, x_if, x_ic, x_dup, x_pop, x_dup2, x_gI, x_gL, x_gR, x_g1, x_g0, x_gP, x_pI, x_pZ, x_pL, x_pP, x_al, x_as, x_all, x_asl, x_alr, x_len, x_cpy, x_m2, x_m1, x_m2l, x_m1l, x_call, x_cv, x_ri, x_rz, x_rl, x_rv, zg, zset, zbef, zlong, zcat, cond_true, cond_false, List.take, List.drop, rv1, rv2, rv3, rv4, rv5, rv6, rv7, sm0, sm1, bl0, bl1, bl2, bl3, bl4, bl5, bl6, bl7, bl8, List.nil_append, List.cons_append, List.length_cons, List.length_nil, Nat.reduceBEq, Nat.reduceAdd, Nat.reduceSub, ta, tb, tn0, tn1, tn2, tn3, tn4, tn5, tn6, tn7, tn8, tn9, tn10, tn11, tn12, bX12_dayGoes_44]
      rw [n_succ]
      have d7 : S 7 n = 0 := d
      refine hself _ _ ⟨I2, L2, rfl, rfl, hI.tr (frB_83 (by omega) hI2), hL.tr hL2.d, (hL2 12 0 61 (by decide) (by decide)).trans hLd, hS'.faded hn r10 (fun a c q1 q2 => hI2 a 0 c (fun e => q2 ⟨e.1, e.2.2⟩) (fun e => by rw [e.1, e.2.2] at q1; exact absurd q1 (by decide))) hv ?_ (fun f i q => ?_)⟩
      · unfold aFade
        by_cases c9 : S 9 0 - S 4 n ≤ fad T S (hnd T n) (wod S n)
        · rw [if_neg (fun q => q.2.2.2.2 c9), if_pos c9]; exact d7
        · rw [if_pos ⟨rfl, by omega, n5, by rw [d7]; decide, c9⟩, if_neg c9]
      · unfold aFade
        congr 1
        simp only [eq_iff_iff]
        constructor
        · rintro ⟨x1, x2, x3⟩; exact ⟨x1, by omega, x3⟩
        · rintro ⟨x1, x2, x3⟩; exact ⟨x1, by omega, x3⟩
    · refine skip L' hL hLd (fun q => q.2.1 ?_)
      exact q7.resolve_left d
  · rintro Z M ⟨I1, L1, rfl, rfl, hI1, hL1, hLd1, hS1⟩ self
    have hT1 := hI1.RT hT
    dsimp only [x_int, x_lng, x_ild, x_lld, x_ald, x_ist, x_ast, x_lst, x_inc, x_ii, x_id, x_i, x_ll, x_ld, x_l, x_cmp, x_i2l, x_l2i, x_if, x_ic, x_dup, x_pop, x_dup2, x_gI, x_gL, x_gR, x_g1, x_g0, x_gP, x_pI, x_pZ, x_pL, x_pP, x_al, x_as, x_all, x_asl, x_alr, x_len, x_cpy, x_m2, x_m1, x_m2l, x_m1l, x_call, x_cv, x_ri, x_rz, x_rl, x_rv, zg, zset, zbef, zlong, zcat, cond_true, cond_false, List.take, List.drop, rv1, rv2, rv3, rv4, rv5, rv6, rv7, sm0, sm1, bl0, bl1, bl2, bl3, bl4, bl5, bl6, bl7, bl8, List.nil_append, List.cons_append, List.length_cons, List.length_nil, Nat.reduceBEq, Nat.reduceAdd, Nat.reduceSub, ta, tb, tn0, tn1, tn2, tn3, tn4, tn5, tn6, tn7, tn8, tn9, tn10, tn11, tn12]
    refine ⟨fun _ => ?_, fun c => absurd c (lt_out hT1.1.2.2)⟩
    have e9 : aDay T dr true S = su (aRaps T dr (T.1 2) (aFade T S (T.1 2))) 9 0 (aRaps T dr (T.1 2) (aFade T S (T.1 2)) 9 0 + 1) := rfl
    have wS1 : WS T (aFade T S (T.1 2)) := wS.of3 (fun i => aFade_ne (by decide))
    have wQ1 : WQ T (aFade T S (T.1 2)) := wQ.fade _
    have hlk1 : 0 ≤ aFade T S (T.1 2) 13 0 ∧ aFade T S (T.1 2) 13 0 ≤ 30 := by rw [aFade_ne (by decide)]; exact hlk
    have hn1 : RN L1 dr (aFade T S (T.1 2) 10 0) := by rw [aFade_ne (by decide)]; intro z; rw [hLd1]; exact hn z
    have h14 : aFade T S (T.1 2) 14 0 = S 14 0 := aFade_ne (by decide)
    have hdr1 : I1 12 0 63 = I 12 0 63 := hI1 12 0 63 (fun e => by rcases e.2 with e | e | e | e | e <;> omega) (by simp)
    generalize aFade T S (T.1 2) = S0 at *
    refine zinv (T.1 2) (fun n Z M => ∃ (I' : zI) (L' : zJ), Z = [some (.inr (.inr (12, 0))), some (.inl (nI b)), some (.inl (nI n))] ∧ M = (I', L', P) ∧ frB b I I' ∧ zeLd L L' ∧ (dr = false → L' 12 0 61 = L 12 0 61) ∧ RN L' dr (aRaps T dr n S0 10 0) ∧ RS I' b T (aRaps T dr n S0)) ?_ ?_ ⟨I1, L1, rfl, rfl, hI1, hL1, fun _ => hLd1, hn1, hS1⟩
    · rintro n Z M hn ⟨I', L', rfl, rfl, hI, hL, hLd, hN, hS'⟩ self2 hself
      have hT' := hI.RT hT
      have wS2 : WS T (aRaps T dr n S0) := wS1.of3 (fun q => aRaps_3 n)
      obtain ⟨hh, eh⟩ := wT.h h6 hn
      obtain ⟨hw, ew⟩ := wS2.w w4 hn
      obtain ⟨b1, b2, b3, b4, b5, b6, b7⟩ := hS'.2.2.1 n hn
      have zr : zin (nI (10 * b + n)) 20 := n_zin (by omega) (by decide)
      have hdr' : I' 12 0 63 = I 12 0 63 := hI 12 0 63 (fun e => by rcases e.2 with e | e | e | e | e <;> omega) (by simp)
      have h14' := hS'.2.2.2.2.2
      have skip : ¬ (aRaps T dr n S0 5 n = 0 ∧ aRaps T dr n S0 4 n = aRaps T dr n S0 9 0 ∧ ¬ T.2.1 8 n = aRaps T dr n S0 14 0) → self2 [some (.inr (.inr (12, 0))), some (.inl (nI b)), some (.inl (nI n + 1))] [] (I', L', P) := fun h1 => by
        rw [n_succ]
        have e : aRaps T dr (n + 1) S0 = aRaps T dr n S0 := if_neg h1
        exact hself _ _ ⟨I', L', rfl, rfl, hI, hL, hLd, by rw [e]; exact hN, by rw [e]; exact hS'⟩
      have doit : aRaps T dr n S0 5 n = 0 → aRaps T dr n S0 4 n = aRaps T dr n S0 9 0 → ¬ T.2.1 8 n = aRaps T dr n S0 14 0 → bX12_dayGoes_115 K self2 [some (.inr (.inr (12, 0))), some (.inl (nI b)), some (.inl (nI n))] [] (I', L', P) := by
        intro d1 d2 d3
        have e : aRaps T dr (n + 1) S0 = aRap T (aRaps T dr n S0) n (hnd T n) (wod (aRaps T dr n S0) n) dr := if_pos ⟨d1, d2, d3⟩
        unfold bX12_dayGoes_115
        dsimp only [x_int, x_lng, x_ild, x_lld, x_ald, x_ist, x_ast, x_lst, x_inc, x_ii, x_id, x_i, x_ll, x_ld, x_l, x_cmp, x_i2l, x_l2i, x_if, x_ic, x_dup, x_pop, x_dup2, x_gI, x_gL, x_gR, x_g1, x_g0, x_gP, x_pI, x_pZ, x_pL, x_pP, x_al, x_as, x_all, x_asl, x_alr, x_len, x_cpy, x_m2, x_m1, x_m2l, x_m1l, x_call, x_cv, x_ri, x_rz, x_rl, x_rv, zg, zset, zbef, zlong, zcat, cond_true, cond_false, List.take, List.drop, rv1, rv2, rv3, rv4, rv5, rv6, rv7, sm0, sm1, bl0, bl1, bl2, bl3, bl4, bl5, bl6, bl7, bl8, List.nil_append, List.cons_append, List.length_cons, List.length_nil, Nat.reduceBEq, Nat.reduceAdd, Nat.reduceSub, ta, tb, tn0, tn1, tn2, tn3, tn4, tn5, tn6, tn7, tn8, tn9, tn10, tn11, tn12, bX12_dayGoes_121]
        refine p_raps hb hT' hS' wT (by rw [aRaps_13]; exact hlk1) hn hh hw eh ew d2 (by rw [hdr']; exact hdr) hN (fun I2 L2 hI2 hL2 hLd2 hN2 hS2 => ?_)
        dsimp only [x_int, x_lng, x_ild, x_lld, x_ald, x_ist, x_ast, x_lst, x_inc, x_ii, x_id, x_i, x_ll, x_ld, x_l, x_cmp, x_i2l, x_l2i, x_if, x_ic, x_dup, x_pop, x_dup2, x_gI, x_gL, x_gR, x_g1, x_g0, x_gP, x_pI, x_pZ, x_pL, x_pP, x_al, x_as, x_all, x_asl, x_alr, x_len, x_cpy, x_m2, x_m1, x_m2l, x_m1l, x_call, x_cv, x_ri, x_rz, x_rl, x_rv, zg, zset, zbef, zlong, zcat, cond_true, cond_false, List.take, List.drop, rv1, rv2, rv3, rv4, rv5, rv6, rv7, sm0, sm1, bl0, bl1, bl2, bl3, bl4, bl5, bl6, bl7, bl8, List.nil_append, List.cons_append, List.length_cons, List.length_nil, Nat.reduceBEq, Nat.reduceAdd, Nat.reduceSub, ta, tb, tn0, tn1, tn2, tn3, tn4, tn5, tn6, tn7, tn8, tn9, tn10, tn11, tn12, bX12_dayGoes_121]
        rw [n_succ]
        exact hself _ _ ⟨I2, L2, rfl, rfl, hI.tr hI2, hL.tr hL2, fun z => (hLd2 z).trans (hLd z), by rw [e]; exact hN2, by rw [e]; exact hS2⟩
      dsimp only [x_int, x_lng, x_ild, x_lld, x_ald, x_ist, x_ast, x_lst, x_inc, x_ii, x_id, x_i, x_ll, x_ld, x_l, x_cmp, x_i2l, x_l2i, x_if, x_ic, x_dup, x_pop, x_dup2, x_gI, x_gL, x_gR, x_g1, x_g0, x_gP, x_pI, x_pZ, x_pL, x_pP, x_al, x_as, x_all, x_asl, x_alr, x_len, x_cpy, x_m2, x_m1, x_m2l, x_m1l, x_call, x_cv, x_ri, x_rz, x_rl, x_rv, zg, zset, zbef, zlong, zcat, cond_true, cond_false, List.take, List.drop, rv1, rv2, rv3, rv4, rv5, rv6, rv7, sm0, sm1, bl0, bl1, bl2, bl3, bl4, bl5, bl6, bl7, bl8, List.nil_append, List.cons_append, List.length_cons, List.length_nil, Nat.reduceBEq, Nat.reduceAdd, Nat.reduceSub, ta, tb, tn0, tn1, tn2, tn3, tn4, tn5, tn6, tn7, tn8, tn9, tn10, tn11, tn12, zk_81, zl_81, zk_80, zl_80, zk_86, zl_86, zk_63, zl_63, bX12_dayGoes_121]
      rw [n10, n_cl (n := 10 * b + n) (by omega), n_cl (n := b) (by omega), n_cl (n := n) (by omega), b3, b2, hS'.2.2.2.1, (hT'.rap hn).1]
      refine ⟨fun c => absurd c (lt_go hT'.1.2.2 (by omega) hn), fun _ => ⟨zr, fun d1 => ⟨zr, n_zin hb (by decide), fun d2 => ⟨fun d3 => ⟨n_zin (by omega) (by decide), fun d4 => ?_, fun d4 => ?_⟩, fun d3 => ?_⟩, fun d2 => ?_⟩, fun d1 => ?_⟩⟩
      · rw [if_pos d3] at h14'
        exact skip (fun q => q.2.2 (by rw [h14']; exact d4))
      · rw [if_pos d3] at h14'
        exact doit d1 d2 (by rw [h14']; exact d4)
      · rw [if_neg d3] at h14'
        refine doit d1 d2 (fun q => ?_)
        rw [h14', eh] at q
        have h0 := congrArg Int32.toInt q
        rw [n_toInt (by omega)] at h0
        have : (-1 : Int32).toInt = -1 := rfl
        omega
      · exact skip (fun q => d2 q.2.1)
      · exact skip (fun q => d1 q.1)
    · rintro Z M ⟨I', L', rfl, rfl, hI, hL, hLd, hN, hS'⟩ self2
      have hT' := hI.RT hT
      dsimp only [x_int, x_lng, x_ild, x_lld, x_ald, x_ist, x_ast, x_lst, x_inc, x_ii, x_id, x_i, x_ll, x_ld, x_l, x_cmp, x_i2l, x_l2i, x_if, x_ic, x_dup, x_pop, x_dup2, x_gI, x_gL, x_gR, x_g1, x_g0, x_gP, x_pI, x_pZ, x_pL, x_pP, x_al, x_as, x_all, x_asl, x_alr, x_len, x_cpy, x_m2, x_m1, x_m2l, x_m1l, x_call, x_cv, x_ri, x_rz, x_rl, x_rv, zg, zset, zbef, zlong, zcat, cond_true, cond_false, List.take, List.drop, rv1, rv2, rv3, rv4, rv5, rv6, rv7, sm0, sm1, bl0, bl1, bl2, bl3, bl4, bl5, bl6, bl7, bl8, List.nil_append, List.cons_append, List.length_cons, List.length_nil, Nat.reduceBEq, Nat.reduceAdd, Nat.reduceSub, ta, tb, tn0, tn1, tn2, tn3, tn4, tn5, tn6, tn7, tn8, tn9, tn10, tn11, tn12, zk_86, zl_86]
      rw [n_cl (n := b) (by omega), hS'.2.2.2.1]
      refine ⟨fun _ => ⟨n_zin hb (by decide), n_zin hb (by decide), ?_⟩, fun c => absurd c (lt_out hT'.1.2.2)⟩
      refine hK (zsI (I', L', P) 86 0 b (aRaps T dr (T.1 2) S0 9 0 + 1)).1 L' (fun a i c q1 q2 => ?_) hL hLd ?_ ?_
      · show (if a = 86 ∧ i = 0 ∧ c = b then _ else I' a i c) = _
        rw [if_neg (fun e => q1 ⟨e.2.1, Or.inr (Or.inr (Or.inr (Or.inl ⟨e.1, e.2.2⟩)))⟩)]
        exact hI a i c q1 q2
      · rw [e9]; exact hN
      · rw [e9]
        refine hS'.day (fun a c q1 q2 => ?_) ?_
        · show (if a = 86 ∧ 0 = 0 ∧ c = b then _ else I' a 0 c) = _
          rw [if_neg (fun e => q2 ⟨e.1, e.2.2⟩)]
        · show (if 86 = 86 ∧ 0 = 0 ∧ b = b then _ else _) = _
          rw [if_pos ⟨rfl, rfl, rfl⟩]
theorem p_goMany {K : zQ} {I : zI} {L : zJ} {P : zP} {T : aT} {S : aS} {dr : Bool} {n : Nat} (hn0 : n < 2147483648) (hT : RT I T) (hS : RS I 1 T S) (wT : WT T) (wS : WS T S) (wQ : WQ T S) (hlk : 0 ≤ S 13 0 ∧ S 13 0 ≤ 30) (hdr : (I 12 0 63 = 0 ∧ dr = false) ∨ (I 12 0 63 = 1 ∧ dr = true)) (hn : RN L dr (S 10 0))
    (hK : ∀ (I' : zI) (L' : zJ), frB 1 I I' → zeLd L L' → (dr = false → L' 12 0 61 = L 12 0 61) → RN L' dr (aPass T dr true n S 10 0) → RS I' 1 T (aPass T dr true n S) → K [] (I', L', P)) : mX12_goMany K [.inr (.inr (12, 0)), .inl (nI n)] (I, L, P) := by
  show bX12_goMany_2 K [some (.inr (.inr (12, 0))), some (.inl (nI n)), some (.inl 0)] [] (I, L, P)
  refine zinv n (fun i Z M => ∃ (I' : zI) (L' : zJ), Z = [some (.inr (.inr (12, 0))), some (.inl (nI n)), some (.inl (nI i))] ∧ M = (I', L', P) ∧ frB 1 I I' ∧ zeLd L L' ∧ (dr = false → L' 12 0 61 = L 12 0 61) ∧ RN L' dr (aPass T dr true i S 10 0) ∧ RS I' 1 T (aPass T dr true i S)) ?_ ?_ ⟨I, L, rfl, rfl, frB.rf, fun _ _ _ _ _ _ => rfl, fun _ => rfl, hn, hS⟩
  · rintro i Z M hi ⟨I', L', rfl, rfl, hI, hL, hLd, hN, hS'⟩ self hself
    have hdr' : I' 12 0 63 = I 12 0 63 := hI 12 0 63 (fun e => by rcases e.2 with e | e | e | e | e <;> omega) (by simp)
    dsimp only [x_int, x_lng, x_ild, x_lld, x_ald, x_ist, x_ast, x_lst, x_inc, x_ii, x_id, x_i, x_ll, x_ld, x_l, x_cmp, x_i2l, x_l2i, x_if, x_ic, x_dup, x_pop, x_dup2, x_gI, x_gL, x_gR, x_g1, x_g0, x_gP, x_pI, x_pZ, x_pL, x_pP, x_al, x_as, x_all, x_asl, x_alr, x_len, x_cpy, x_m2, x_m1, x_m2l, x_m1l, x_call, x_cv, x_ri, x_rz, x_rl, x_rv, zg, zset, zbef, zlong, zcat, cond_true, cond_false, List.take, List.drop, rv1, rv2, rv3, rv4, rv5, rv6, rv7, sm0, sm1, bl0, bl1, bl2, bl3, bl4, bl5, bl6, bl7, bl8, List.nil_append, List.cons_append, List.length_cons, List.length_nil, Nat.reduceBEq, Nat.reduceAdd, Nat.reduceSub, ta, tb, tn0, tn1, tn2, tn3, tn4, tn5, tn6, tn7, tn8, tn9, tn10, tn11, tn12]
    refine ⟨fun c => absurd c (lt_go rfl hn0 hi), fun _ => p_dayGoes (b := 1) (by decide) (hI.RT hT) hS' wT (wS.of3 (fun q => aPass_3 i)) (wQ.pass dr true i) (by rw [aPass_13]; exact hlk) (by rw [hdr']; exact hdr) hN (fun I2 L2 hI2 hL2 hLd2 hN2 hS2 => ?_)⟩
    dsimp only [x_int, x_lng, x_ild, x_lld, x_ald, x_ist, x_ast, x_lst, x_inc, x_ii, x_id, x_i, x_ll, x_ld, x_l, x_cmp, x_i2l, x_l2i, x_if, x_ic, x_dup, x_pop, x_dup2, x_gI, x_gL, x_gR, x_g1, x_g0, x_gP, x_pI, x_pZ, x_pL, x_pP, x_al, x_as, x_all, x_asl, x_alr, x_len, x_cpy, x_m2, x_m1, x_m2l, x_m1l, x_call, x_cv, x_ri, x_rz, x_rl, x_rv, zg, zset, zbef, zlong, zcat, cond_true, cond_false, List.take, List.drop, rv1, rv2, rv3, rv4, rv5, rv6, rv7, sm0, sm1, bl0, bl1, bl2, bl3, bl4, bl5, bl6, bl7, bl8, List.nil_append, List.cons_append, List.length_cons, List.length_nil, Nat.reduceBEq, Nat.reduceAdd, Nat.reduceSub, ta, tb, tn0, tn1, tn2, tn3, tn4, tn5, tn6, tn7, tn8, tn9, tn10, tn11, tn12]
    rw [n_succ]
    exact hself _ _ ⟨I2, L2, rfl, rfl, hI.tr hI2, hL.tr hL2, fun z => (hLd2 z).trans (hLd z), hN2, hS2⟩
  · rintro Z M ⟨I', L', rfl, rfl, hI, hL, hLd, hN, hS'⟩ self
    dsimp only [x_int, x_lng, x_ild, x_lld, x_ald, x_ist, x_ast, x_lst, x_inc, x_ii, x_id, x_i, x_ll, x_ld, x_l, x_cmp, x_i2l, x_l2i, x_if, x_ic, x_dup, x_pop, x_dup2, x_gI, x_gL, x_gR, x_g1, x_g0, x_gP, x_pI, x_pZ, x_pL, x_pP, x_al, x_as, x_all, x_asl, x_alr, x_len, x_cpy, x_m2, x_m1, x_m2l, x_m1l, x_call, x_cv, x_ri, x_rz, x_rl, x_rv, zg, zset, zbef, zlong, zcat, cond_true, cond_false, List.take, List.drop, rv1, rv2, rv3, rv4, rv5, rv6, rv7, sm0, sm1, bl0, bl1, bl2, bl3, bl4, bl5, bl6, bl7, bl8, List.nil_append, List.cons_append, List.length_cons, List.length_nil, Nat.reduceBEq, Nat.reduceAdd, Nat.reduceSub, ta, tb, tn0, tn1, tn2, tn3, tn4, tn5, tn6, tn7, tn8, tn9, tn10, tn11, tn12]
    exact ⟨fun _ => hK I' L' hI hL hLd hN hS', fun c => absurd c (lt_out rfl)⟩
