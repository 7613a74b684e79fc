def WQ (T : aT) (S : aS) : Prop := ∀ r, r < T.1 2 → (S 5 r = 0 ∨ S 5 r = 1 ∨ S 5 r = 2) ∧ (S 7 r = 0 ∨ S 7 r = 1)
theorem WQ.fade {T : aT} {S : aS} (h : WQ T S) (n : Nat) : WQ T (aFade T S n) := fun r hr => by
  rw [aFade_ne (by decide)]
  refine ⟨(h r hr).1, ?_⟩
  unfold aFade
  split
  · exact Or.inr rfl
  · exact (h r hr).2
theorem WQ.rap {T : aT} {S : aS} (h : WQ T S) (r x w : Nat) (dr : Bool) : WQ T (aRap T S r x w dr) := fun q hq => by
  refine ⟨?_, ?_⟩
  · by_cases e : q = r
    · subst e
      simp only [aRap]
      cases whof T S w (earf T S x w dr) with
      | none => exact Or.inr (Or.inr rfl)
      | some _ => exact Or.inr (Or.inl rfl)
    · have : aRap T S r x w dr 5 q = S 5 q := by simp [aRap, e]
      rw [this]; exact (h q hq).1
  · have : aRap T S r x w dr 7 q = S 7 q := by simp [aRap]
    rw [this]; exact (h q hq).2
theorem aRap_13 {T : aT} {S : aS} {r h w : Nat} {dr : Bool} : aRap T S r h w dr 13 0 = S 13 0 := by simp [aRap]
theorem WQ.raps {T : aT} {S : aS} (h : WQ T S) (dr : Bool) : ∀ n, WQ T (aRaps T dr n S) := by
  intro n
  induction n with
  | zero => exact h
  | succ n ih =>
    unfold aRaps
    split
    · exact ih.rap _ _ _ _
    · exact ih
theorem aRaps_13 {T : aT} {S : aS} {dr : Bool} : ∀ n, aRaps T dr n S 13 0 = S 13 0 := by
  intro n
  induction n with
  | zero => rfl
  | succ n ih =>
    unfold aRaps
    split
    · rw [aRap_13]; exact ih
    · exact ih
theorem WQ.day {T : aT} {S : aS} (h : WQ T S) (dr fd : Bool) : WQ T (aDay T dr fd S) := fun r hr => by
  unfold aDay
  show (aRaps _ _ _ _ 5 r = 0 ∨ _) ∧ (aRaps _ _ _ _ 7 r = 0 ∨ _)
  cases fd
  · exact h.raps dr (T.1 2) r hr
  · exact (h.fade (T.1 2)).raps dr (T.1 2) r hr
theorem WQ.pass {T : aT} {S : aS} (h : WQ T S) (dr fd : Bool) : ∀ n, WQ T (aPass T dr fd n S) := by
  intro n
  induction n with
  | zero => exact h
  | succ n ih => exact ih.day dr fd
theorem aDay_13 {T : aT} {S : aS} {dr fd : Bool} : aDay T dr fd S 13 0 = S 13 0 := by
  unfold aDay
  show aRaps _ _ _ _ 13 0 = _
  rw [aRaps_13]
  cases fd
  · rfl
  · exact aFade_ne (T := T) (S := S) (n := T.1 2) (f := 13) (by decide)
theorem aPass_13 {T : aT} {S : aS} {dr fd : Bool} : ∀ n, aPass T dr fd n S 13 0 = S 13 0 := by
  intro n
  induction n with
  | zero => rfl
  | succ n ih => unfold aPass; rw [aDay_13]; exact ih
theorem RS.faded {M M' : zI} {b : Nat} {T : aT} {S S' : aS} {r : Nat} {v : Int32} (hS : RS M b T S) (hb : r < T.1 2) (r10 : T.1 2 ≤ 10) (e : ∀ a c, rsK a c = true → ¬ (a = 83 ∧ c = 10 * b + r) → M' a 0 c = M a 0 c) (ev : M' 83 0 (10 * b + r) = v) (h7 : S' 7 r = v) (h0 : ∀ f i, ¬ (f = 7 ∧ i = r) → S' f i = S f i) : RS M' b T S' := by
  have e76 : ∀ c, M' 76 0 c = M 76 0 c := fun c => e 76 c rfl (by simp)
  have e77 : ∀ c, M' 77 0 c = M 77 0 c := fun c => e 77 c rfl (by simp)
  have e78 : ∀ c, M' 78 0 c = M 78 0 c := fun c => e 78 c rfl (by simp)
  have e79 : ∀ c, M' 79 0 c = M 79 0 c := fun c => e 79 c rfl (by simp)
  have e80 : ∀ c, M' 80 0 c = M 80 0 c := fun c => e 80 c rfl (by simp)
  have e81 : ∀ c, M' 81 0 c = M 81 0 c := fun c => e 81 c rfl (by simp)
  have e82 : ∀ c, M' 82 0 c = M 82 0 c := fun c => e 82 c rfl (by simp)
  have e84 : ∀ c, M' 84 0 c = M 84 0 c := fun c => e 84 c rfl (by simp)
  have e85 : ∀ c, M' 85 0 c = M 85 0 c := fun c => e 85 c rfl (by simp)
  have e86 : ∀ c, M' 86 0 c = M 86 0 c := fun c => e 86 c rfl (by simp)
  have e57 : ∀ c, M' 57 0 c = M 57 0 c := fun c => e 57 c rfl (by simp)
  have e61 : ∀ c, M' 61 0 c = M 61 0 c := fun c => e 61 c rfl (by simp)
  have e54 : ∀ c, M' 54 0 c = M 54 0 c := fun c => e 54 c rfl (by simp)
  have f1 : M' 12 0 64 = M 12 0 64 := e 12 _ rfl (by simp)
  have f2 : M' 12 0 65 = M 12 0 65 := e 12 _ rfl (by simp)
  have f3 : M' 12 0 66 = M 12 0 66 := e 12 _ rfl (by simp)
  have f4 : M' 12 0 67 = M 12 0 67 := e 12 _ rfl (by simp)
  have g : ∀ f i, ¬ f = 7 → S' f i = S f i := fun f i q => h0 f i (fun z => q z.1)
  obtain ⟨a1, a2, a3, a4, a5, a6⟩ := hS
  unfold coldR agedR at a1
  unfold hardR at a2
  unfold likeR at a5
  refine ⟨fun x hx => ?_, fun x hx => ?_, fun x hx => ?_, ?_, ?_, ?_⟩
  · unfold coldR agedR
    rw [f1, f3, f4, e76, e77, e57, g 0 x (by decide), g 1 x (by decide), g 11 x (by decide)]; exact a1 x hx
  · unfold hardR
    rw [f1, e61, e78, g 12 x (by decide), g 2 x (by decide)]; exact a2 x hx
  · obtain ⟨b1, b2, b3, b4, b5, b6, b7⟩ := a3 x hx
    rw [e79, e80, e81, e82, e84, g 3 x (by decide), g 4 x (by decide), g 5 x (by decide), g 6 x (by decide)]
    refine ⟨b1, b2, b3, b4, ?_, b6, fun q hq => by rw [e85, g 8 _ (by decide)]; exact b7 q hq⟩
    by_cases ex : x = r
    · subst ex; rw [ev, h7]
    · rw [e 83 _ rfl (fun z => ex (by omega)), h0 7 x (fun z => ex z.2)]; exact b5
  · rw [e86, g 9 0 (by decide)]; exact a4
  · unfold likeR
    rw [f1, e54, g 13 0 (by decide)]; exact a5
  · rw [f1, f2, g 14 0 (by decide)]; exact a6
theorem nar0 : vp_nar .boolean 0 = 0 := by decide
theorem nar1 : vp_nar .boolean 1 = 1 := by decide
theorem p_fades {K : zQ} {I : zI} {L : zJ} {P : zP} {b : Nat} {T : aT} {S : aS} {r h w : Nat} (hb : b < 2) (hT : RT I T) (hS : RS I b T S) (wT : WT T) (hr : r < T.1 2) (hh : h < T.1 0) (hw : w < T.1 1) (eh : T.2.1 8 r = nI h) (ew : S 3 r = nI w) (h5 : ¬ S 5 r = 0)
    (hK : ∀ (I' : zI) (L' : zJ) (v : Int32), (∀ a i c, ¬ (a = 83 ∧ i = 0 ∧ c = 10 * b + r) → ¬ (a = 12 ∧ i = 0 ∧ c = 49) → I' a i c = I a i c) → zeLr L L' → I' 83 0 (10 * b + r) = (if S 9 0 - S 4 r ≤ fad T S h w then 0 else 1) → K [] (I', L', P)) : mX12_fades K [.inr (.inr (12, 0)), .inl (nI b), .inl (nI r)] (I, L, P) := by
  have h6 := hT.h6
  have w4 := hT.w4
  have r10 := hT.r10
  obtain ⟨b1, b2, b3, b4, b5, b6, b7⟩ := hS.2.2.1 r hr
  have zr : zin (nI (10 * b + r)) 20 := n_zin (by omega) (by decide)
  obtain ⟨kp, hkp, ekp⟩ := wT.2.2 w hw
  have cl : T.2.1 5 w = clm (T.2.1 5 w) 99 := by
    unfold clm
    rw [ekp, if_neg (fun q => by rw [show (0 : Int32) = nI 0 from rfl, n_lt (by omega) (by omega)] at q; omega), if_neg (fun q => by rw [show (99 : Int32) = nI 99 from rfl, n_lt (by omega) (by omega)] at q; omega)]
  show bX12_fades_0 K [some (.inr (.inr (12,0))), some (.inl (nI b)), some (.inl (nI r)), none, none] [] (I, L, P)
  unfold bX12_fades_0
  dsimp only [x_int, x_lng, x_ild, x_lld, x_ald, x_ist, x_ast, x_lst, x_inc, x_ii, x_id, x_i, x_ll, x_ld, x_l, x_cmp, x_i2l, x_l2i, x_if, x_ic, x_dup, x_pop, x_dup2, x_gI, x_gL, x_gR, x_g1, x_g0, x_gP, x_pI, x_pZ, x_pL, x_pP, x_al, x_as, x_all, x_asl, x_alr, x_len, x_cpy, x_m2, x_m1, x_m2l, x_m1l, x_call, x_cv, x_ri, x_rz, x_rl, x_rv, zg, zset, zbef, zlong, zcat, cond_true, cond_false, List.take, List.drop, rv1, rv2, rv3, rv4, rv5, rv6, rv7, sm0, sm1, bl0, bl1, bl2, bl3, bl4, bl5, bl6, bl7, bl8, List.nil_append, List.cons_append, List.length_cons, List.length_nil, Nat.reduceBEq, Nat.reduceAdd, Nat.reduceSub, ta, tb, tn0, tn1, tn2, tn3, tn4, tn5, tn6, tn7, tn8, tn9, tn10, tn11, tn12, zk_79, zl_79, zk_63, zl_63]
  rw [n10, n_cl (n := 10 * b + r) (by omega), n_cl (n := r) (by omega), b1, (hT.rap hr).1, eh, ew]
  refine ⟨zr, n_zin (by omega) (by decide), p_layNames hb (by omega) (by omega) (fun L1 e1 n1 => ?_)⟩
  rw [nmv_R hS hh hw] at n1
  dsimp only [x_int, x_lng, x_ild, x_lld, x_ald, x_ist, x_ast, x_lst, x_inc, x_ii, x_id, x_i, x_ll, x_ld, x_l, x_cmp, x_i2l, x_l2i, x_if, x_ic, x_dup, x_pop, x_dup2, x_gI, x_gL, x_gR, x_g1, x_g0, x_gP, x_pI, x_pZ, x_pL, x_pP, x_al, x_as, x_all, x_asl, x_alr, x_len, x_cpy, x_m2, x_m1, x_m2l, x_m1l, x_call, x_cv, x_ri, x_rz, x_rl, x_rv, zg, zset, zbef, zlong, zcat, cond_true, cond_false, List.take, List.drop, rv1, rv2, rv3, rv4, rv5, rv6, rv7, sm0, sm1, bl0, bl1, bl2, bl3, bl4, bl5, bl6, bl7, bl8, List.nil_append, List.cons_append, List.length_cons, List.length_nil, Nat.reduceBEq, Nat.reduceAdd, Nat.reduceSub, ta, tb, tn0, tn1, tn2, tn3, tn4, tn5, tn6, tn7, tn8, tn9, tn10, tn11, tn12, zk_60, zl_60]
  rw [n_cl (n := w) (by omega), (hT.wood hw).2.1]
  refine ⟨n_zin (by omega) (by decide), p_boundLaw (w := 2) (T := T) (o := T.2.1 5 w) (nm := anm S h w 0 0) (by decide) (hT.law (by decide)) n1 (fun q _ => nmv_inB q) (by decide) cl (fun I2 L2 hI2 hL2 => ?_)⟩
  have d2 : I2 86 0 b = S 9 0 := (hI2 86 0 b (by simp)).trans hS.2.2.2.1
  have c2 : I2 84 0 (10 * b + r) = S 4 r := (hI2 84 0 _ (by simp)).trans (b6 h5)
  dsimp only [x_int, x_lng, x_ild, x_lld, x_ald, x_ist, x_ast, x_lst, x_inc, x_ii, x_id, x_i, x_ll, x_ld, x_l, x_cmp, x_i2l, x_l2i, x_if, x_ic, x_dup, x_pop, x_dup2, x_gI, x_gL, x_gR, x_g1, x_g0, x_gP, x_pI, x_pZ, x_pL, x_pP, x_al, x_as, x_all, x_asl, x_alr, x_len, x_cpy, x_m2, x_m1, x_m2l, x_m1l, x_call, x_cv, x_ri, x_rz, x_rl, x_rv, zg, zset, zbef, zlong, zcat, cond_true, cond_false, List.take, List.drop, rv1, rv2, rv3, rv4, rv5, rv6, rv7, sm0, sm1, bl0, bl1, bl2, bl3, bl4, bl5, bl6, bl7, bl8, List.nil_append, List.cons_append, List.length_cons, List.length_nil, Nat.reduceBEq, Nat.reduceAdd, Nat.reduceSub, ta, tb, tn0, tn1, tn2, tn3, tn4, tn5, tn6, tn7, tn8, tn9, tn10, tn11, tn12, zk_83, zl_83, zk_86, zl_86, zk_84, zl_84, bX12_fades_79]
  try rw [n_cl (n := 10 * b + r) (by omega)]
  rw [n_cl (n := b) (by omega), d2, c2]
  have hK := hK
  have fe : wi (lev (anm S h w 0 0) (T.2.2 2) []) (T.2.1 5 w) 99 = fad T S h w := rfl
  rw [fe]
  have fin : ∀ v : Int32, v = (if S 9 0 - S 4 r ≤ fad T S h w then 0 else 1) → K [] (zsI (I2, L2, P) 83 0 (10 * b + r) v) := fun v hv => hK (zsI (I2, L2, P) 83 0 (10 * b + r) v).1 L2 v (fun a i c q1 q2 => by
      show (if a = 83 ∧ i = 0 ∧ c = 10 * b + r then v else I2 a i c) = _
      rw [if_neg q1]; exact hI2 a i c q2) (fun a b c q1 q2 => (hL2 a b c q2).trans (e1 a b c q1)) (by
      show (if 83 = 83 ∧ 0 = 0 ∧ 10 * b + r = 10 * b + r then v else _) = _
      rw [if_pos ⟨rfl, rfl, rfl⟩]; exact hv)
  refine ⟨n_zin hb (by decide), zr, fun c => ⟨zr, ?_⟩, fun c => ⟨zr, ?_⟩⟩
  · rw [nar0]; exact fin 0 (by rw [if_pos c])
  · rw [nar1]; exact fin 1 (by rw [if_neg c])
