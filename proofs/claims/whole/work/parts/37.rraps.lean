def inBuf (b a c : Nat) : Prop := (a = 77 ∧ 6 * b ≤ c ∧ c < 6 * b + 6) ∨ ((a = 81 ∨ a = 82 ∨ a = 83 ∨ a = 84) ∧ 10 * b ≤ c ∧ c < 10 * b + 10) ∨ (a = 85 ∧ 60 * b ≤ c ∧ c < 60 * b + 60) ∨ (a = 86 ∧ c = b) ∨ a = 87
def frB (b : Nat) (I I' : zI) : Prop := ∀ a i c, ¬ (i = 0 ∧ inBuf b a c) → ¬ (a = 12 ∧ i = 0 ∧ c = 49) → I' a i c = I a i c
theorem frB.rf {b : Nat} {I : zI} : frB b I I := fun _ _ _ _ _ => rfl
theorem frB.tr {b : Nat} {I I1 I2 : zI} (h : frB b I I1) (h2 : frB b I1 I2) : frB b I I2 := fun a i c q1 q2 => (h2 a i c q1 q2).trans (h a i c q1 q2)
theorem frE.B {b : Nat} {I I' : zI} (h : frE I I') : frB b I I' := fun a i c _ q2 => h a i c q2
theorem frB.RT {b : Nat} {I I' : zI} {T : aT} (h : frB b I I') (hT : RT I T) : RT I' T := hT.fr (fun a c q => h a 0 c (fun e => by
    have q : ((Nat.ble 54 a && Nat.ble a 71) || (a == 12 && (Nat.ble 12 c && Nat.ble c 15))) = true := q
    simp only [Bool.or_eq_true, Bool.and_eq_true, Nat.ble_eq, beq_iff_eq] at q
    rcases e.2 with e | e | e | e | e <;> omega) (fun e => by rw [e.1, e.2.2] at q; exact absurd q (by decide)))
def RN (L : zJ) (dr : Bool) (n : Int32) : Prop := dr = true → 0 ≤ n ∧ L 12 0 61 = n.toInt64
def s8 (T : aT) (S : aS) (r h w : Nat) (dr : Bool) (k : Nat) : aS := fun f i => if f = 8 ∧ 6 * r ≤ i ∧ i < 6 * r + k then earf T S h w dr (i - 6 * r) else S f i
theorem s8_ne {T : aT} {S : aS} {r h w : Nat} {dr : Bool} {k f i : Nat} (hf : ¬ f = 8) : s8 T S r h w dr k f i = S f i := by simp [s8, hf]
theorem shk_s8 {T : aT} {S : aS} {r h w : Nat} {dr : Bool} {k x y z : Nat} : shk T (s8 T S r h w dr k) x y z = shk T S x y z := by
  simp [shk, anm, s8]
theorem rch_s8 {T : aT} {S : aS} {r h w : Nat} {dr : Bool} {k x y : Nat} {z : Int32} : rch T (s8 T S r h w dr k) x y z = rch T S x y z := by
  simp [rch, anm, s8]
theorem whof_s8 {T : aT} {S : aS} {r h w : Nat} {dr : Bool} {k y : Nat} {g : Nat → Int32} : whof T (s8 T S r h w dr k) y g = whof T S y g := by
  unfold whof
  simp only [rch_s8]
theorem RS_s8 {M M' : zI} {b : Nat} {T : aT} {S : aS} {r h w : Nat} {dr : Bool} {k : Nat} (hS : RS M b T S) (hk : k ≤ 6) (e : ∀ a c, rsK a c = true → ¬ (a = 85 ∧ 60 * b + 6 * r ≤ c ∧ c < 60 * b + 6 * r + 6) → M' a 0 c = M a 0 c) (e8 : ∀ q, q < 6 → M' 85 0 (60 * b + 6 * r + q) = if q < k then earf T S h w dr q else M 85 0 (60 * b + 6 * r + q)) : RS M' b T (s8 T S r h w dr k) := by
  have g : ∀ f i, ¬ f = 8 → s8 T S r h w dr k f i = S f i := fun f i q => s8_ne q
  have e76 : ∀ c, M' 76 0 c = M 76 0 c := fun c => e 76 c rfl (by simp)
  have e77 : ∀ c, M' 77 0 c = M 77 0 c := fun c => e 77 c rfl (by simp)
  have e78 : ∀ c, M' 78 0 c = M 78 0 c := fun c => e 78 c rfl (by simp)
  have e79 : ∀ c, M' 79 0 c = M 79 0 c := fun c => e 79 c rfl (by simp)
  have e80 : ∀ c, M' 80 0 c = M 80 0 c := fun c => e 80 c rfl (by simp)
  have e81 : ∀ c, M' 81 0 c = M 81 0 c := fun c => e 81 c rfl (by simp)
  have e82 : ∀ c, M' 82 0 c = M 82 0 c := fun c => e 82 c rfl (by simp)
  have e83 : ∀ c, M' 83 0 c = M 83 0 c := fun c => e 83 c rfl (by simp)
  have e84 : ∀ c, M' 84 0 c = M 84 0 c := fun c => e 84 c rfl (by simp)
  have e86 : ∀ c, M' 86 0 c = M 86 0 c := fun c => e 86 c rfl (by simp)
  have e57 : ∀ c, M' 57 0 c = M 57 0 c := fun c => e 57 c rfl (by simp)
  have e61 : ∀ c, M' 61 0 c = M 61 0 c := fun c => e 61 c rfl (by simp)
  have e54 : ∀ c, M' 54 0 c = M 54 0 c := fun c => e 54 c rfl (by simp)
  have f1 : M' 12 0 64 = M 12 0 64 := e 12 _ rfl (by simp)
  have f2 : M' 12 0 65 = M 12 0 65 := e 12 _ rfl (by simp)
  have f3 : M' 12 0 66 = M 12 0 66 := e 12 _ rfl (by simp)
  have f4 : M' 12 0 67 = M 12 0 67 := e 12 _ rfl (by simp)
  obtain ⟨a1, a2, a3, a4, a5, a6⟩ := hS
  unfold coldR agedR at a1
  unfold hardR at a2
  unfold likeR at a5
  refine ⟨fun x hx => ?_, fun x hx => ?_, fun x hx => ?_, ?_, ?_, ?_⟩
  · unfold coldR agedR
    rw [f1, f3, f4, e76, e77, e57, g 0 x (by decide), g 1 x (by decide), g 11 x (by decide)]; exact a1 x hx
  · unfold hardR
    rw [f1, e61, e78, g 12 x (by decide), g 2 x (by decide)]; exact a2 x hx
  · obtain ⟨b1, b2, b3, b4, b5, b6, b7⟩ := a3 x hx
    rw [e79, e80, e81, e82, e83, e84, g 3 x (by decide), g 4 x (by decide), g 5 x (by decide), g 6 x (by decide), g 7 x (by decide)]
    refine ⟨b1, b2, b3, b4, b5, b6, fun q hq => ?_⟩
    by_cases ex : x = r
    · subst ex
      rw [e8 q hq]
      show _ = (if 8 = 8 ∧ 6 * x ≤ 6 * x + q ∧ 6 * x + q < 6 * x + k then earf T S h w dr (6 * x + q - 6 * x) else S 8 (6 * x + q))
      by_cases c : q < k
      · rw [if_pos c, if_pos ⟨rfl, by omega, by omega⟩]
        congr 1; omega
      · rw [if_neg c, if_neg (by omega)]; exact b7 q hq
    · rw [e 85 _ rfl (by omega), b7 q hq]
      show _ = (if 8 = 8 ∧ 6 * r ≤ 6 * x + q ∧ 6 * x + q < 6 * r + k then earf T S h w dr (6 * x + q - 6 * r) else S 8 (6 * x + q))
      rw [if_neg (by omega)]
  · rw [e86, g 9 0 (by decide)]; exact a4
  · unfold likeR
    rw [f1, e54, g 13 0 (by decide)]; exact a5
  · rw [f1, f2, g 14 0 (by decide)]; exact a6

theorem earf_small {T : aT} {S : aS} {h w : Nat} {dr : Bool} (wT : WT T) (hh : h < T.1 0) : gSm (earf T S h w dr) := fun k hk => by
  obtain ⟨x, -, hx, ex⟩ := wT.2.1 h hh k hk
  unfold earf
  rw [ex]
  rcases dr1_b dr (shk T S h w k) (nks dr (shk T S h w) (S 10 0) k) with e | e
  · exact ⟨x, by omega, by show nI x + (dr1 dr (shk T S h w k) (nks dr (shk T S h w) (S 10 0) k)).2 = _; rw [e]; exact Int32.add_zero _⟩
  · exact ⟨x + 1, by omega, by show nI x + (dr1 dr (shk T S h w k) (nks dr (shk T S h w) (S 10 0) k)).2 = _; rw [e, n_succ]⟩
theorem nks_false {e : Nat → Int32} {n : Int32} : ∀ k, nks false e n k = n := by
  intro k
  induction k with
  | zero => rfl
  | succ k ih => exact ih
set_option maxHeartbeats 2000000 in
theorem p_raps {K : zQ} {I : zI} {L : zJ} {P : zP} {b : Nat} {T : aT} {S : aS} {r h w : Nat} {dr : Bool} (hb : b < 2) (hT : RT I T) (hS : RS I b T S) (wT : WT T) (hlk : 0 ≤ S 13 0 ∧ S 13 0 ≤ 30) (hr : r < T.1 2) (hh : h < T.1 0) (hw : w < T.1 1) (eh : T.2.1 8 r = nI h) (ew : S 3 r = nI w) (eday : S 4 r = S 9 0) (hdr : (I 12 0 63 = 0 ∧ dr = false) ∨ (I 12 0 63 = 1 ∧ dr = true)) (hn : RN L dr (S 10 0))
    (hK : ∀ (I' : zI) (L' : zJ), frB b I I' → zeLd L L' → (dr = false → L' 12 0 61 = L 12 0 61) → RN L' dr (aRap T S r h w dr 10 0) → RS I' b T (aRap T S r h w dr) → K [] (I', L', P)) : mX12_raps K [.inr (.inr (12, 0)), .inl (nI b), .inl (nI r)] (I, L, P) := by
  have h6 := hT.h6
  have w4 := hT.w4
  have r10 := hT.r10
  show bX12_raps_0 K [some (.inr (.inr (12,0))), some (.inl (nI b)), some (.inl (nI r)), none, none, none] [] (I, L, P)
  unfold bX12_raps_0
  dsimp only [x_int, x_lng, x_ild, x_lld, x_ald, x_ist, x_ast, x_lst, x_inc, x_ii, x_id, x_i, x_ll, x_ld, x_l, x_cmp, x_i2l, x_l2i, x_if, x_ic, x_dup, x_pop, x_dup2, x_gI, x_gL, x_gR, x_g1, x_g0, x_gP, x_pI, x_pZ, x_pL, x_pP, x_al, x_as, x_all, x_asl, x_alr, x_len, x_cpy, x_m2, x_m1, x_m2l, x_m1l, x_call, x_cv, x_ri, x_rz, x_rl, x_rv, zg, zset, zbef, zlong, zcat, cond_true, cond_false, List.take, List.drop, rv1, rv2, rv3, rv4, rv5, rv6, rv7, sm0, sm1, bl0, bl1, bl2, bl3, bl4, bl5, bl6, bl7, bl8, List.nil_append, List.cons_append, List.length_cons, List.length_nil, Nat.reduceBEq, Nat.reduceAdd, Nat.reduceSub, ta, tb, tn0, tn1, tn2, tn3, tn4, tn5, tn6, tn7, tn8, tn9, tn10, tn11, tn12, zk_63, zl_63, zk_79, zl_79]
  rw [n10, n_cl (n := r) (by omega), n_cl (n := 10 * b + r) (by omega), (hT.rap hr).1, (hS.2.2.1 r hr).1, eh, ew]
  refine ⟨n_zin (by omega) (by decide), n_zin (by omega) (by decide), ?_⟩
  refine zinv 6 (fun k Z M => ∃ (I' : zI) (L' : zJ), Z = [some (.inr (.inr (12, 0))), some (.inl (nI b)), some (.inl (nI r)), some (.inl (nI h)), some (.inl (nI w)), some (.inl (nI k))] ∧ M = (I', L', P) ∧ (∀ a i c, ¬ (a = 87 ∧ i = 0) → ¬ (a = 85 ∧ i = 0 ∧ 60 * b + 6 * r ≤ c ∧ c < 60 * b + 6 * r + 6) → ¬ (a = 12 ∧ i = 0 ∧ c = 49) → I' a i c = I a i c) ∧ (∀ q, q < 6 → I' 85 0 (60 * b + 6 * r + q) = if q < k then earf T S h w dr q else I 85 0 (60 * b + 6 * r + q)) ∧ (∀ q, q < k → I' 87 0 q = earf T S h w dr q) ∧ zeLd L L' ∧ (dr = false → L' 12 0 61 = L 12 0 61) ∧ RN L' dr (nks dr (shk T S h w) (S 10 0) k)) ?_ ?_ ⟨I, L, rfl, rfl, fun _ _ _ _ _ _ => rfl, fun q _ => by rw [if_neg (by omega)], fun q hq => absurd hq (by omega), fun _ _ _ _ _ _ => rfl, fun _ => rfl, hn⟩
  · rintro k Z M hk ⟨I', L', rfl, rfl, hI, h85, h87, hL, hLf, hN⟩ self hself
    have hT' : RT I' T := hT.fr (fun a c q => hI a 0 c (fun e => by rw [e.1] at q; exact absurd (show false = true from q) (by decide)) (fun e => by rw [e.1] at q; exact absurd (show false = true from q) (by decide)) (fun e => by rw [e.1, e.2.2] at q; exact absurd q (by decide)))
    have hS' : RS I' b T (s8 T S r h w dr k) := RS_s8 hS (by omega) (fun a c q q2 => hI a 0 c (fun e => by rw [e.1] at q; exact absurd (show false = true from q) (by decide)) (fun e => q2 ⟨e.1, e.2.2⟩) (fun e => by rw [e.1, e.2.2] at q; exact absurd q (by decide))) h85
    have hd' : I' 12 0 63 = I 12 0 63 := hI 12 0 63 (by simp) (by simp) (by simp)
    dsimp only [x_int, x_lng, x_ild, x_lld, x_ald, x_ist, x_ast, x_lst, x_inc, x_ii, x_id, x_i, x_ll, x_ld, x_l, x_cmp, x_i2l, x_l2i, x_if, x_ic, x_dup, x_pop, x_dup2, x_gI, x_gL, x_gR, x_g1, x_g0, x_gP, x_pI, x_pZ, x_pL, x_pP, x_al, x_as, x_all, x_asl, x_alr, x_len, x_cpy, x_m2, x_m1, x_m2l, x_m1l, x_call, x_cv, x_ri, x_rz, x_rl, x_rv, zg, zset, zbef, zlong, zcat, cond_true, cond_false, List.take, List.drop, rv1, rv2, rv3, rv4, rv5, rv6, rv7, sm0, sm1, bl0, bl1, bl2, bl3, bl4, bl5, bl6, bl7, bl8, List.nil_append, List.cons_append, List.length_cons, List.length_nil, Nat.reduceBEq, Nat.reduceAdd, Nat.reduceSub, ta, tb, tn0, tn1, tn2, tn3, tn4, tn5, tn6, tn7, tn8, tn9, tn10, tn11, tn12, zk_58, zl_58]
    rw [n6, n_cl (n := 6 * h + k) (by omega), (hT'.hand hh).2.2.2 k hk]
    refine ⟨fun c => absurd c (lt_go (n := 6) rfl (by omega) hk), fun _ => ⟨n_zin (by omega) (by decide), p_isLonger hb hT' hS' hh hw hk (by rw [hd']; exact hdr) hN (fun I2 L2 hI2 hL2 hLf2 hN2 => ?_)⟩⟩
    rw [shk_s8] at hN2 ⊢
    have ek : earf T S h w dr k = T.2.1 3 (6 * h + k) + (dr1 dr (shk T S h w k) (nks dr (shk T S h w) (S 10 0) k)).2 := rfl
    dsimp only [x_int, x_lng, x_ild, x_lld, x_ald, x_ist, x_ast, x_lst, x_inc, x_ii, x_id, x_i, x_ll, x_ld, x_l, x_cmp, x_i2l, x_l2i, x_if, x_ic, x_dup, x_pop, x_dup2, x_gI, x_gL, x_gR, x_g1, x_g0, x_gP, x_pI, x_pZ, x_pL, x_pP, x_al, x_as, x_all, x_asl, x_alr, x_len, x_cpy, x_m2, x_m1, x_m2l, x_m1l, x_call, x_cv, x_ri, x_rz, x_rl, x_rv, zg, zset, zbef, zlong, zcat, cond_true, cond_false, List.take, List.drop, rv1, rv2, rv3, rv4, rv5, rv6, rv7, sm0, sm1, bl0, bl1, bl2, bl3, bl4, bl5, bl6, bl7, bl8, List.nil_append, List.cons_append, List.length_cons, List.length_nil, Nat.reduceBEq, Nat.reduceAdd, Nat.reduceSub, ta, tb, tn0, tn1, tn2, tn3, tn4, tn5, tn6, tn7, tn8, tn9, tn10, tn11, tn12, zk_87, zl_87, zk_85, zl_85, bX12_raps_66]
    rw [n60, n_cl (n := k) (by omega), n_cl (n := 60 * b + 6 * r + k) (by omega), n_succ]
    have fin : ∀ v : Int32, v = earf T S h w dr k → zin (nI k) 6 ∧ zin (nI k) 6 ∧ zin (nI (60 * b + 6 * r + k)) 120 ∧ self [some (.inr (.inr (12, 0))), some (.inl (nI b)), some (.inl (nI r)), some (.inl (nI h)), some (.inl (nI w)), some (.inl (nI (k + 1)))] [] (zsI (zsI (I2, L2, P) 87 0 k v) 85 0 (60 * b + 6 * r + k) ((zsI (I2, L2, P) 87 0 k v).1 87 0 k)) := by
      intro v hv
      refine ⟨n_zin hk (by decide), n_zin hk (by decide), n_zin (by omega) (by decide), ?_⟩
      have rd : (zsI (I2, L2, P) 87 0 k v).1 87 0 k = v := by simp [zsI]
      rw [rd]
      refine hself _ _ ⟨_, L2, rfl, rfl, fun a i c q1 q2 q3 => ?_, fun q hq => ?_, fun q hq => ?_, fun a i c q1 q2 q3 => (hL2 a i c q1 q2 q3).trans (hL a i c q1 q2 q3), fun z => (hLf2 z).trans (hLf z), hN2⟩
      · show (if a = 85 ∧ i = 0 ∧ c = 60 * b + 6 * r + k then v else if a = 87 ∧ i = 0 ∧ c = k then v else I2 a i c) = _
        rw [if_neg (fun e => q2 ⟨e.1, e.2.1, by omega, by omega⟩), if_neg (fun e => q1 ⟨e.1, e.2.1⟩), hI2 a i c q3]
        exact hI a i c q1 q2 q3
      · show (if 85 = 85 ∧ 0 = 0 ∧ 60 * b + 6 * r + q = 60 * b + 6 * r + k then v else if 85 = 87 ∧ 0 = 0 ∧ 60 * b + 6 * r + q = k then v else I2 85 0 (60 * b + 6 * r + q)) = _
        by_cases e : q = k
        · subst e
          rw [if_pos ⟨rfl, rfl, rfl⟩, if_pos (by omega)]; exact hv
        · rw [if_neg (fun z => e (by omega)), if_neg (fun z => absurd z.1 (by decide)), hI2 85 0 _ (by simp), h85 q hq]
          by_cases c : q < k
          · rw [if_pos c, if_pos (by omega)]
          · rw [if_neg c, if_neg (by omega)]
      · show (if 87 = 85 ∧ 0 = 0 ∧ q = 60 * b + 6 * r + k then v else if 87 = 87 ∧ 0 = 0 ∧ q = k then v else I2 87 0 q) = _
        rw [if_neg (fun z => absurd z.1 (by decide))]
        by_cases e : q = k
        · subst e
          rw [if_pos ⟨rfl, rfl, rfl⟩]; exact hv
        · rw [if_neg (fun z => e z.2.2), hI2 87 0 q (by simp)]
          exact h87 q (by omega)
    refine ⟨fun c => ?_, fun c => ?_⟩
    · exact fin _ (by rw [ek, c])
    · exact fin _ (by
        rw [ek]
        rcases dr1_b dr (shk T S h w k) (nks dr (shk T S h w) (S 10 0) k) with e | e
        · exact absurd e c
        · rw [e])
  · rintro Z M ⟨I', L', rfl, rfl, hI, h85, h87, hL, hLf, hN⟩ self
    have hT' : RT I' T := hT.fr (fun a c q => hI a 0 c (fun e => by rw [e.1] at q; exact absurd (show false = true from q) (by decide)) (fun e => by rw [e.1] at q; exact absurd (show false = true from q) (by decide)) (fun e => by rw [e.1, e.2.2] at q; exact absurd q (by decide)))
    have hS' : RS I' b T (s8 T S r h w dr 6) := RS_s8 hS (by omega) (fun a c q q2 => hI a 0 c (fun e => by rw [e.1] at q; exact absurd (show false = true from q) (by decide)) (fun e => q2 ⟨e.1, e.2.2⟩) (fun e => by rw [e.1, e.2.2] at q; exact absurd q (by decide))) h85
    dsimp only [x_int, x_lng, x_ild, x_lld, x_ald, x_ist, x_ast, x_lst, x_inc, x_ii, x_id, x_i, x_ll, x_ld, x_l, x_cmp, x_i2l, x_l2i, x_if, x_ic, x_dup, x_pop, x_dup2, x_gI, x_gL, x_gR, x_g1, x_g0, x_gP, x_pI, x_pZ, x_pL, x_pP, x_al, x_as, x_all, x_asl, x_alr, x_len, x_cpy, x_m2, x_m1, x_m2l, x_m1l, x_call, x_cv, x_ri, x_rz, x_rl, x_rv, zg, zset, zbef, zlong, zcat, cond_true, cond_false, List.take, List.drop, rv1, rv2, rv3, rv4, rv5, rv6, rv7, sm0, sm1, bl0, bl1, bl2, bl3, bl4, bl5, bl6, bl7, bl8, List.nil_append, List.cons_append, List.length_cons, List.length_nil, Nat.reduceBEq, Nat.reduceAdd, Nat.reduceSub, ta, tb, tn0, tn1, tn2, tn3, tn4, tn5, tn6, tn7, tn8, tn9, tn10, tn11, tn12]
    refine ⟨fun _ => p_boundBy hb hT' hS' wT (by rw [s8_ne (by decide)]; exact hlk) hw h87 (earf_small wT hh) (fun I2 L2 hI2 hL2 => ?_), fun c => absurd c (lt_out (n := 6) rfl)⟩
    rw [whof_s8]
    have hS2 : RS I2 b T (s8 T S r h w dr 6) := hI2.RS hS'
    have hT2 : RT I2 T := hI2.RT hT'
    dsimp only [x_int, x_lng, x_ild, x_lld, x_ald, x_ist, x_ast, x_lst, x_inc, x_ii, x_id, x_i, x_ll, x_ld, x_l, x_cmp, x_i2l, x_l2i, x_if, x_ic, x_dup, x_pop, x_dup2, x_gI, x_gL, x_gR, x_g1, x_g0, x_gP, x_pI, x_pZ, x_pL, x_pP, x_al, x_as, x_all, x_asl, x_alr, x_len, x_cpy, x_m2, x_m1, x_m2l, x_m1l, x_call, x_cv, x_ri, x_rz, x_rl, x_rv, zg, zset, zbef, zlong, zcat, cond_true, cond_false, List.take, List.drop, rv1, rv2, rv3, rv4, rv5, rv6, rv7, sm0, sm1, bl0, bl1, bl2, bl3, bl4, bl5, bl6, bl7, bl8, List.nil_append, List.cons_append, List.length_cons, List.length_nil, Nat.reduceBEq, Nat.reduceAdd, Nat.reduceSub, ta, tb, tn0, tn1, tn2, tn3, tn4, tn5, tn6, tn7, tn8, tn9, tn10, tn11, tn12, zk_81, zl_81, zk_82, zl_82, zk_84, zl_84, zk_86, zl_86, zk_77, zl_77, bX12_raps_127]
    rw [n10, n6, n_cl (n := 10 * b + r) (by omega), n_cl (n := 6 * b + h) (by omega), n_cl (n := b) (by omega)]
    have zr : zin (nI (10 * b + r)) 20 := n_zin (by omega) (by decide)
    have zh : zin (nI (6 * b + h)) 12 := n_zin (by omega) (by decide)
    have zb : zin (nI b) 2 := n_zin hb (by decide)
    have fin : ∀ s5 : Int32, s5 = (match whof T S w (earf T S h w dr) with
        | none => 2
        | some _ => 1) → K [] (zsI (zsI (zsI (zsI (I2, L2, P) 81 0 (10 * b + r) s5) 82 0 (10 * b + r) (wbR (whof T S w (earf T S h w dr)))) 84 0 (10 * b + r) (S 9 0)) 77 0 (6 * b + h) (S 1 h + 1)) := by
      intro s5 e5
      have hI9 : ∀ a i c, (zsI (zsI (zsI (zsI (I2, L2, P) 81 0 (10 * b + r) s5) 82 0 (10 * b + r) (wbR (whof T S w (earf T S h w dr)))) 84 0 (10 * b + r) (S 9 0)) 77 0 (6 * b + h) (S 1 h + 1)).1 a i c = (if a = 77 ∧ i = 0 ∧ c = 6 * b + h then S 1 h + 1 else if a = 84 ∧ i = 0 ∧ c = 10 * b + r then S 9 0 else if a = 82 ∧ i = 0 ∧ c = 10 * b + r then wbR (whof T S w (earf T S h w dr)) else if a = 81 ∧ i = 0 ∧ c = 10 * b + r then s5 else I2 a i c) := fun _ _ _ => rfl
      have nx9 : aRap T S r h w dr 10 0 = nks dr (shk T S h w) (S 10 0) 6 := by simp [aRap]
      refine hK (zsI (zsI (zsI (zsI (I2, L2, P) 81 0 (10 * b + r) s5) 82 0 (10 * b + r) (wbR (whof T S w (earf T S h w dr)))) 84 0 (10 * b + r) (S 9 0)) 77 0 (6 * b + h) (S 1 h + 1)).1 L2 (fun a i c q1 q2 => ?_) (fun a i c q1 q2 q3 => (hL2 a i c q1 q2).trans (hL a i c q1 q2 q3)) (fun z => (hL2 12 0 61 (by decide) (by decide)).trans (hLf z)) ?_ ?_
      · have w1 : ∀ k x, i = 0 → inBuf b k x → ¬ (a = k ∧ c = x) := fun k x h0 hx e => q1 ⟨h0, by rw [e.1, e.2]; exact hx⟩
        have i1 : inBuf b 77 (6 * b + h) := Or.inl ⟨rfl, by omega, by omega⟩
        have i2 : ∀ k, k = 81 ∨ k = 82 ∨ k = 83 ∨ k = 84 → inBuf b k (10 * b + r) := fun k hk => Or.inr (Or.inl ⟨hk, by omega, by omega⟩)
        rw [hI9, if_neg (fun e => w1 _ _ e.2.1 i1 ⟨e.1, e.2.2⟩), if_neg (fun e => w1 _ _ e.2.1 (i2 84 (by simp)) ⟨e.1, e.2.2⟩), if_neg (fun e => w1 _ _ e.2.1 (i2 82 (by simp)) ⟨e.1, e.2.2⟩), if_neg (fun e => w1 _ _ e.2.1 (i2 81 (by simp)) ⟨e.1, e.2.2⟩), hI2 a i c q2]
        exact hI a i c (fun e => q1 ⟨e.2, Or.inr (Or.inr (Or.inr (Or.inr e.1)))⟩) (fun e => q1 ⟨e.2.1, Or.inr (Or.inr (Or.inl ⟨e.1, by omega, by omega⟩))⟩) q2
      · rw [nx9]
        intro z
        have := hN z
        rw [hL2 12 0 61 (by decide) (by decide)]
        exact this
      · obtain ⟨a1, a2, a3, a4, a5, a6⟩ := hS2
        have g : ∀ f i, ¬ f = 8 → ¬ f = 5 → ¬ f = 6 → ¬ f = 1 → ¬ f = 10 → aRap T S r h w dr f i = S f i := fun f i q8 q5 q6 q1 q10 => by
          simp [aRap, q8, q5, q6, q1, q10]
        have g8 : ∀ f i, ¬ f = 8 → s8 T S r h w dr 6 f i = S f i := fun f i q => s8_ne q
        have ge8 : ∀ i, aRap T S r h w dr 8 i = s8 T S r h w dr 6 8 i := fun i => by simp [aRap, s8]
        unfold coldR agedR at a1
        unfold hardR at a2
        unfold likeR at a5
        refine ⟨fun x hx => ?_, fun x hx => ?_, fun x hx => ?_, ?_, ?_, ?_⟩
        · obtain ⟨b1, b2, b3⟩ := a1 x hx
          unfold coldR agedR
          rw [g8 0 x (by decide)] at b1
          rw [g8 1 x (by decide)] at b2
          rw [g8 11 x (by decide)] at b3
          refine ⟨?_, ?_, ?_⟩
          · simp only [hI9]
            rw [g 0 x (by decide) (by decide) (by decide) (by decide) (by decide)]
            simpa using b1
          · rw [hI9]
            by_cases e : x = h
            · subst e; simp [aRap]
            · rw [if_neg (fun z => e (by omega)), if_neg (fun z => absurd z.1 (by decide)), if_neg (fun z => absurd z.1 (by decide)), if_neg (fun z => absurd z.1 (by decide)), b2]
              simp [aRap, e]
          · simp only [hI9]
            rw [g 11 x (by decide) (by decide) (by decide) (by decide) (by decide)]
            simpa using b3
        · obtain ⟨b1, b2⟩ := a2 x hx
          unfold hardR
          rw [g8 12 x (by decide)] at b1
          rw [g8 2 x (by decide)] at b2
          simp only [hI9]
          rw [g 12 x (by decide) (by decide) (by decide) (by decide) (by decide), g 2 x (by decide) (by decide) (by decide) (by decide) (by decide)]
          exact ⟨by simpa using b1, by simpa using b2⟩
        · obtain ⟨b1, b2, b3, b4, b5, b6, b7⟩ := a3 x hx
          rw [g8 3 x (by decide)] at b1
          rw [g8 4 x (by decide)] at b2 b6
          rw [g8 5 x (by decide)] at b3 b6
          rw [g8 6 x (by decide)] at b4
          rw [g8 7 x (by decide)] at b5
          rw [g 3 x (by decide) (by decide) (by decide) (by decide) (by decide), g 4 x (by decide) (by decide) (by decide) (by decide) (by decide), g 7 x (by decide) (by decide) (by decide) (by decide) (by decide)]
          refine ⟨by simpa [hI9] using b1, by simpa [hI9] using b2, ?_, ?_, by simpa [hI9] using b5, ?_, fun q hq => ?_⟩
          · rw [hI9]
            by_cases e : x = r
            · subst e
              simp only [aRap]
              simp [e5]
              try rfl
            · rw [if_neg (fun z => absurd z.1 (by decide)), if_neg (fun z => absurd z.1 (by decide)), if_neg (fun z => absurd z.1 (by decide)), if_neg (fun z => e (by omega)), b3]
              simp [aRap, e]
          · rw [hI9]
            by_cases e : x = r
            · subst e
              simp only [aRap]
              simp
              rfl
            · rw [if_neg (fun z => absurd z.1 (by decide)), if_neg (fun z => absurd z.1 (by decide)), if_neg (fun z => e (by omega)), if_neg (fun z => absurd z.1 (by decide)), b4]
              simp [aRap, e]
          · rw [hI9]
            by_cases e : x = r
            · subst e
              rw [if_neg (fun z => absurd z.1 (by decide)), if_pos ⟨rfl, rfl, rfl⟩]
              exact fun _ => eday.symm
            · rw [if_neg (fun z => absurd z.1 (by decide)), if_neg (fun z => e (by omega)), if_neg (fun z => absurd z.1 (by decide)), if_neg (fun z => absurd z.1 (by decide))]
              have : aRap T S r h w dr 5 x = S 5 x := by simp [aRap, e]
              rw [this]; exact b6
          · rw [hI9, ge8]
            rw [if_neg (fun z => absurd z.1 (by decide)), if_neg (fun z => absurd z.1 (by decide)), if_neg (fun z => absurd z.1 (by decide)), if_neg (fun z => absurd z.1 (by decide))]
            exact b7 q hq
        · rw [g8 9 0 (by decide)] at a4
          rw [hI9, g 9 0 (by decide) (by decide) (by decide) (by decide) (by decide)]
          simpa using a4
        · rw [g8 13 0 (by decide)] at a5
          unfold likeR
          simp only [hI9]
          rw [g 13 0 (by decide) (by decide) (by decide) (by decide) (by decide)]
          simpa using a5
        · rw [g8 14 0 (by decide)] at a6
          simp only [hI9]
          rw [g 14 0 (by decide) (by decide) (by decide) (by decide) (by decide)]
          simpa using a6
    have hday : I2 86 0 b = S 9 0 := hS2.2.2.2.1.trans (s8_ne (by decide))
    have hrap : I2 77 0 (6 * b + h) = S 1 h := (hS2.1 h hh).2.1.trans (s8_ne (by decide))
    have rd1 : ∀ s5 t6 : Int32, (zsI (zsI (I2, L2, P) 81 0 (10 * b + r) s5) 82 0 (10 * b + r) t6).1 86 0 b = S 9 0 := fun s5 t6 => by simpa [zsI] using hday
    have rd2 : ∀ s5 t6 d : Int32, (zsI (zsI (zsI (I2, L2, P) 81 0 (10 * b + r) s5) 82 0 (10 * b + r) t6) 84 0 (10 * b + r) d).1 77 0 (6 * b + h) = S 1 h := fun s5 t6 d => by simpa [zsI] using hrap
    simp only [rd1, rd2]
    cases e : whof T S w (earf T S h w dr) with
    | none =>
      rw [e] at fin
      exact ⟨fun c => absurd c (by decide), fun _ => ⟨zr, zr, zb, zr, zh, zh, fin 2 rfl⟩⟩
    | some x =>
      rw [e] at fin
      have hx := whof_lt e
      exact ⟨fun _ => ⟨zr, zr, zb, zr, zh, zh, fin 1 rfl⟩, fun c => absurd (show nI 0 ≤ nI x by rw [n_le (by omega) (by omega)]; omega) c⟩
