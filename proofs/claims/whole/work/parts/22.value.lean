def lev (nm : Nat → Int64) : List Int32 → List Int64 → Int64
  | [], st => match st with
    | [v] => v
    | _ => zER
  | c :: cs, st =>
    if c < 0 then
      (if -c < 12 then
        (if -c = 11 then (match st with
          | [] => lev nm cs []
          | v :: r => lev nm cs ((if v = 0 then 1 else 0) :: r))
        else (match st with
          | b :: a :: r => if jn (-c) a b = zER then zER else lev nm cs (jn (-c) a b :: r)
          | s => lev nm cs s))
      else if 18 < -c then (match st with
          | b :: a :: r => if jn (-c) a b = zER then zER else lev nm cs (jn (-c) a b :: r)
          | s => lev nm cs s)
      else lev nm cs (nm (-c - 12).toNatClampNeg :: st))
    else lev nm cs (c.toInt64 :: st)
def levb (nm : Nat → Int64) (c : Int32) (cs : List Int32) (st : List Int64) : Int64 := match st with
  | b :: a :: r => if jn (-c) a b = zER then zER else lev nm cs (jn (-c) a b :: r)
  | s => lev nm cs s
theorem lev_push {nm : Nat → Int64} {c : Int32} {cs : List Int32} {st : List Int64} (h : ¬ c < 0) : lev nm (c :: cs) st = lev nm cs (c.toInt64 :: st) := by
  rw [lev.eq_def]
  exact if_neg h
theorem lev_name {nm : Nat → Int64} {c : Int32} {cs : List Int32} {st : List Int64} (h : c < 0) (h1 : ¬ -c < 12) (h2 : ¬ 18 < -c) : lev nm (c :: cs) st = lev nm cs (nm (-c - 12).toNatClampNeg :: st) := by
  rw [lev.eq_def]
  exact (if_pos h).trans ((if_neg h1).trans (if_neg h2))
theorem lev_hi {nm : Nat → Int64} {c : Int32} {cs : List Int32} {st : List Int64} (h : c < 0) (h1 : ¬ -c < 12) (h2 : 18 < -c) : lev nm (c :: cs) st = levb nm c cs st := by
  rw [lev.eq_def]
  exact (if_pos h).trans ((if_neg h1).trans (if_pos h2))
theorem lev_lo {nm : Nat → Int64} {c : Int32} {cs : List Int32} {st : List Int64} (h : c < 0) (h1 : -c < 12) (h2 : ¬ -c = 11) : lev nm (c :: cs) st = levb nm c cs st := by
  rw [lev.eq_def]
  exact (if_pos h).trans ((if_pos h1).trans (if_neg h2))
theorem lev_not0 {nm : Nat → Int64} {c : Int32} {cs : List Int32} (h : c < 0) (h1 : -c < 12) (h2 : -c = 11) : lev nm (c :: cs) [] = lev nm cs [] := by
  rw [lev, if_pos h, if_pos h1, if_pos h2]
theorem lev_not {nm : Nat → Int64} {c : Int32} {cs : List Int32} {v : Int64} {r : List Int64} (h : c < 0) (h1 : -c < 12) (h2 : -c = 11) : lev nm (c :: cs) (v :: r) = lev nm cs ((if v = 0 then 1 else 0) :: r) := by
  rw [lev, if_pos h, if_pos h1, if_pos h2]
/-- the stack's row: its top is the head -/
def zSR (L : Nat → Nat → Nat → Int64) (l : Nat) (st : List Int64) : Prop := ∀ j, j < st.length → L 17 l j = st.getD (st.length - 1 - j) 0
abbrev zeL (L L' : Nat → Nat → Nat → Int64) (k : Nat) : Prop := ∀ a b c, a ≠ k → L' a b c = L a b c
theorem zSR_push {L : Nat → Nat → Nat → Int64} {l : Nat} {st : List Int64} (h : zSR L l st) (v : Int64) : zSR (fun a b c => if a = 17 ∧ b = l ∧ c = st.length then v else L a b c) l (v :: st) := by
  intro j hj
  simp only [List.length_cons] at hj ⊢
  by_cases e : j = st.length
  · subst e
    simp
  · have h1 : j < st.length := by omega
    have h2 : st.length + 1 - 1 - j = (st.length - 1 - j) + 1 := by omega
    simp only [true_and, e, if_false]
    rw [h j h1, h2]
    rfl
theorem zSR_top {L : Nat → Nat → Nat → Int64} {l : Nat} {v : Int64} {r : List Int64} (h : zSR L l (v :: r)) : L 17 l r.length = v ∧ zSR L l r := by
  refine ⟨?_, fun j hj => ?_⟩
  · have := h r.length (by simp)
    simpa using this
  · have := h j (by simp; omega)
    have h2 : (v :: r).length - 1 - j = (r.length - 1 - j) + 1 := by simp; omega
    rw [h2] at this
    exact this
theorem n_pred {n : Nat} : nI (n + 1) - 1 = nI n := by
  rw [← n_succ]
  exact Int32.add_sub_cancel _ _
theorem n_m1 {n : Nat} : nI (n + 1) + -1 = nI n := by
  rw [← n_succ, Int32.add_assoc]
  exact Int32.add_zero _
theorem zgo {f : zF} {L L' : zL} {S : List zV} {M M' : zM} (h : f L S M) (e : L' = L) (e2 : M' = M) : f L' S M' := by
  rw [e, e2]; exact h
set_option maxHeartbeats 2000000 in
theorem p_value {K : zQ} {I : Nat → Nat → Nat → Int32} {L : Nat → Nat → Nat → Int64} {P : Nat → Nat → Nat → Nat} {l j : Nat} {cs : List Int32} {nm : Nat → Int64} (hlen : cs.length ≤ 64) (hl : I 2 l 2 = nI cs.length) (hc : ∀ i, i < cs.length → I 16 l i = cs.getD i 0) (hn : ∀ q, q < 7 → L 42 j q = nm q)
    (hK : ∀ L', zeL L L' 17 → K [.inr (.inl (lev nm cs []))] (I, L', P)) : mX2_value K [.inr (.inr (2, l)), .inr (.inr (42, j))] (I, L, P) := by
  show bX2_value_4 K [some (.inr (.inr (2, l))), some (.inr (.inr (42, j))), some (.inl 0), some (.inl 0), none, none] [] (I, L, P)
  refine zinv cs.length (fun i Z S => ∃ (st : List Int64) (L' : Nat → Nat → Nat → Int64) (z4 z5 : Option zV), Z = [some (.inr (.inr (2, l))), some (.inr (.inr (42, j))), some (.inl (nI st.length)), some (.inl (nI i)), z4, z5] ∧ zlong z4 = false ∧ S = (I, L', P) ∧ zeL L L' 17 ∧ zSR L' l st ∧ st.length ≤ i ∧ lev nm (cs.drop i) st = lev nm cs []) ?_ ?_ ⟨[], L, none, none, rfl, rfl, rfl, fun _ _ _ _ => rfl, fun j hj => absurd hj (by simp), Nat.le_refl 0, rfl⟩
  · rintro i Z S hi ⟨st, L', z4, z5, rfl, hz4, rfl, hL, hSR, hst, hlev⟩ self hself
    have hd : cs.drop i = cs.getD i 0 :: cs.drop (i + 1) := by
      rw [List.drop_eq_getElem_cons hi, List.getD_eq_getElem?_getD, List.getElem?_eq_getElem hi]
      rfl
    rw [hd] at hlev
    have hci := hc i hi
    generalize cs.getD i 0 = c at hlev hci
    generalize cs.drop (i + 1) = rest at *
    have go : ∀ (st' : List Int64) (L2 : Nat → Nat → Nat → Int64) (y4 y5 : Option zV), zlong y4 = false → zeL L L2 17 → zSR L2 l st' → st'.length ≤ i + 1 → lev nm rest st' = lev nm cs [] → self [some (.inr (.inr (2, l))), some (.inr (.inr (42, j))), some (.inl (nI st'.length)), some (.inl (nI i + 1)), y4, y5] [] (I, L2, P) := fun st' L2 y4 y5 h1 h2 h3 h4 h5 => by
      rw [n_succ]
      exact hself _ _ ⟨st', L2, y4, y5, rfl, h1, rfl, h2, h3, h4, h5⟩
    refine And.intro (fun q => absurd q (lt_go hl (by omega) hi)) (fun _ => And.intro (n_zin (by show i < 64; omega) (by decide)) ?_)
    have hci : (I, L', P).1 16 l i = c := hci
    rw [n_cl (by omega), hci]
    have wr : ∀ (L2 : Nat → Nat → Nat → Int64) (q : Nat) (v : Int64), q < 64 → zsL (I, L2, P) 17 l (nI q).toNatClampNeg v = (I, fun a b c => if a = 17 ∧ b = l ∧ c = q then v else L2 a b c, P) := fun L2 q v hq => by
      rw [n_cl (by omega)]; rfl
    have we : ∀ (L2 : Nat → Nat → Nat → Int64) (q : Nat) (v : Int64), zeL L L2 17 → zeL L (fun a b c => if a = 17 ∧ b = l ∧ c = q then v else L2 a b c) 17 := fun L2 q v h a b c ha => by
      show (if a = 17 ∧ b = l ∧ c = q then v else L2 a b c) = _
      rw [if_neg (fun e => ha e.1)]; exact h a b c ha
    have b118 : ∀ (y4 : Option zV), zlong y4 = false → levb nm c rest st = lev nm cs [] → bX2_value_118 K self [some (.inr (.inr (2, l))), some (.inr (.inr (42, j))), some (.inl (nI st.length)), some (.inl (nI i)), y4, some (.inl (-c))] [] (I, L', P) := by
      intro y4 hy4 hl2
      clear hlev
      rcases st with _ | ⟨b, _ | ⟨a, r⟩⟩
      · refine And.intro (fun _ => ?_) (fun q => absurd (show nI 0 ≤ nI 1 by rw [n_le (by omega) (by omega)]; omega) q)
        exact go [] L' y4 (some (.inl (-c))) hy4 hL hSR (by simp) hl2
      · refine And.intro (fun _ => ?_) (fun q => absurd (show nI 1 ≤ nI 1 by rw [n_le (by omega) (by omega)]; omega) q)
        exact go [b] L' y4 (some (.inl (-c))) hy4 hL hSR (by simp) hl2
      · obtain ⟨t1, hS1⟩ := zSR_top hSR
        obtain ⟨t2, hS2⟩ := zSR_top hS1
        have hst : r.length + 1 + 1 ≤ i := hst
        have hl2 : (if jn (-c) a b = zER then zER else lev nm rest (jn (-c) a b :: r)) = lev nm cs [] := hl2
        refine And.intro (fun q => absurd ((n_le (a := r.length + 1 + 1) (b := 1) (by omega) (by omega)).mp q) (by omega)) (fun _ => ?_)
        have hm : nI (r.length + 1 + 1) + -1 = nI (r.length + 1) := n_m1
        have hp : nI (r.length + 1) - 1 = nI r.length := n_pred
        have z1 : zin (nI r.length) 64 := n_zin (by omega) (by decide)
        have z2 : zin (nI (r.length + 1)) 64 := n_zin (by omega) (by decide)
        dsimp only [x_int, x_lng, x_ild, x_lld, x_ald, x_ist, x_ast, x_lst, x_inc, x_ii, x_id, x_i, x_ll, x_ld, x_l, x_cmp, x_i2l, x_l2i, x_if, x_ic, x_dup, x_pop, x_dup2, x_gI, x_gL, x_gR, x_g1, x_g0, x_gP, x_pI, x_pZ, x_pL, x_pP, x_al, x_as, x_all, x_asl, x_alr, x_len, x_cpy, x_m2, x_m1, x_m2l, x_m1l, x_call, x_cv, x_ri, x_rz, x_rl, x_rv, zg, zset, zbef, zlong, zcat, cond_true, cond_false, List.take, List.drop, rv1, rv2, rv3, rv4, rv5, rv6, rv7, sm0, sm1, bl0, bl1, bl2, bl3, bl4, bl5, bl6, bl7, bl8, List.nil_append, List.cons_append, List.length_cons, List.length_nil, Nat.reduceBEq, Nat.reduceAdd, Nat.reduceSub, ta, tb, tn0, tn1, tn2, tn3, tn4, tn5, tn6, tn7, tn8, tn9, tn10, tn11, tn12, zk_17, zl_17]
        rw [hm, hp, n_cl (n := r.length) (by omega), n_cl (n := r.length + 1) (by omega), show L' 17 l (r.length + 1) = b from t1, t2]
        refine ⟨z1, z2, p_joined ?_⟩
        dsimp only [x_int, x_lng, x_ild, x_lld, x_ald, x_ist, x_ast, x_lst, x_inc, x_ii, x_id, x_i, x_ll, x_ld, x_l, x_cmp, x_i2l, x_l2i, x_if, x_ic, x_dup, x_pop, x_dup2, x_gI, x_gL, x_gR, x_g1, x_g0, x_gP, x_pI, x_pZ, x_pL, x_pP, x_al, x_as, x_all, x_asl, x_alr, x_len, x_cpy, x_m2, x_m1, x_m2l, x_m1l, x_call, x_cv, x_ri, x_rz, x_rl, x_rv, zg, zset, zbef, zlong, zcat, cond_true, cond_false, List.take, List.drop, rv1, rv2, rv3, rv4, rv5, rv6, rv7, sm0, sm1, bl0, bl1, bl2, bl3, bl4, bl5, bl6, bl7, bl8, List.nil_append, List.cons_append, List.length_cons, List.length_nil, Nat.reduceBEq, Nat.reduceAdd, Nat.reduceSub, ta, tb, tn0, tn1, tn2, tn3, tn4, tn5, tn6, tn7, tn8, tn9, tn10, tn11, tn12, zk_17, zl_17]
        rw [wr L' r.length _ (by omega)]
        have e5 : (if (17 = 17 ∧ l = l ∧ r.length = r.length) then jn (-c) a b else L' 17 l r.length) = jn (-c) a b := if_pos ⟨rfl, rfl, rfl⟩
        refine ⟨z1, z1, ?_, ?_⟩
        · intro q
          have q := (lc_eq _ _).mp q
          have q : (if (17 = 17 ∧ l = l ∧ r.length = r.length) then jn (-c) a b else L' 17 l r.length) = zER := q
          rw [e5] at q
          rw [if_pos q] at hl2
          have hK := hK _ (we L' r.length (jn (-c) a b) hL)
          rw [← hl2] at hK
          exact hK
        · intro q
          have q : ¬ (if (17 = 17 ∧ l = l ∧ r.length = r.length) then jn (-c) a b else L' 17 l r.length) = zER := fun e => q ((lc_eq _ _).mpr e)
          rw [e5] at q
          rw [if_neg q] at hl2
          exact go (jn (-c) a b :: r) _ y4 (some (.inl (-c))) hy4 (we L' r.length (jn (-c) a b) hL) (zSR_push hS2 _) (by simp only [List.length_cons]; omega) hl2
    have h64 : st.length < 64 := by omega
    have zt : zin (nI st.length) 64 := n_zin h64 (by decide)
    have hz2 : zbef [some (.inr (.inr (2, l))), some (.inr (.inr (42, j))), some (.inl (nI st.length)), some (.inl (nI i)), z4, z5] 4 = false := rfl
    have hz5 : ∀ x : Int32, zbef [some (.inr (.inr (2, l))), some (.inr (.inr (42, j))), some (.inl (nI st.length)), some (.inl (nI i)), some (.inl x), z5] 5 = false := fun _ => rfl
    refine And.intro (fun hneg => ?_) (fun hneg => ?_)
    · refine And.intro (fun h12 => ?_) (fun h12 => ?_)
      · refine And.intro (fun h11 => ?_) (fun h11 => ?_)
        · refine And.intro (fun h0 => ?_) (fun h0 => ?_)
          · refine b118 _ rfl ?_
            rcases st with _ | ⟨v, r⟩
            · rw [← hlev, lev_not0 hneg h12 h11]; rfl
            · exfalso
              have h0 : nI (r.length + 1) ≤ nI 0 := h0
              rw [n_le (by simp only [List.length_cons] at h64; omega) (by omega)] at h0
              omega
          · rcases st with _ | ⟨v, r⟩
            · exact absurd (Int32.le_refl _) h0
            · obtain ⟨t1, hS1⟩ := zSR_top hSR
              have hr : r.length + 1 ≤ i := hst
              have hp : nI (r.length + 1) - 1 = nI r.length := n_pred
              have z1 : zin (nI r.length) 64 := n_zin (by omega) (by decide)
              rw [lev_not hneg h12 h11] at hlev
              dsimp only [x_int, x_lng, x_ild, x_lld, x_ald, x_ist, x_ast, x_lst, x_inc, x_ii, x_id, x_i, x_ll, x_ld, x_l, x_cmp, x_i2l, x_l2i, x_if, x_ic, x_dup, x_pop, x_dup2, x_gI, x_gL, x_gR, x_g1, x_g0, x_gP, x_pI, x_pZ, x_pL, x_pP, x_al, x_as, x_all, x_asl, x_alr, x_len, x_cpy, x_m2, x_m1, x_m2l, x_m1l, x_call, x_cv, x_ri, x_rz, x_rl, x_rv, zg, zset, zbef, zlong, zcat, cond_true, cond_false, List.take, List.drop, rv1, rv2, rv3, rv4, rv5, rv6, rv7, sm0, sm1, bl0, bl1, bl2, bl3, bl4, bl5, bl6, bl7, bl8, List.nil_append, List.cons_append, List.length_cons, List.length_nil, Nat.reduceBEq, Nat.reduceAdd, Nat.reduceSub, ta, tb, tn0, tn1, tn2, tn3, tn4, tn5, tn6, tn7, tn8, tn9, tn10, tn11, tn12, zk_17, zl_17]
              rw [hp, n_cl (n := r.length) (by omega), t1]
              refine ⟨z1, fun q => ?_, fun q => ?_⟩
              · have q := (lc_eq _ _).mp q
                rw [if_pos q] at hlev
                refine And.intro z1 ?_
                exact zgo (f := self) (go (1 :: r) _ (some (.inl c)) (some (.inl (-c))) rfl (we L' r.length 1 hL) (zSR_push hS1 1) (by simp only [List.length_cons]; omega) hlev) rfl (wr L' r.length 1 (by omega))
              · have q := fun e => q ((lc_eq _ _).mpr e)
                rw [if_neg q] at hlev
                refine And.intro z1 ?_
                exact zgo (f := self) (go (0 :: r) _ (some (.inl c)) (some (.inl (-c))) rfl (we L' r.length 0 hL) (zSR_push hS1 0) (by simp only [List.length_cons]; omega) hlev) rfl (wr L' r.length 0 (by omega))
        · exact b118 _ rfl (by rw [← hlev, lev_lo hneg h12 h11])
      · refine And.intro (fun h18 => ?_) (fun h18 => ?_)
        · refine And.intro (fun h11 => ?_) (fun h11 => ?_)
          · exfalso
            have h11 : -c = 11 := h11
            have h18 : 18 < -c := h18
            rw [h11] at h18
            exact absurd h18 (by decide)
          · exact b118 _ rfl (by rw [← hlev, lev_hi hneg h12 h18])
        · rw [lev_name hneg h12 h18] at hlev
          have hk : ∃ q, -c = nI (12 + q) ∧ q < 7 := by
            have g1 : ¬ -c < 12 := h12
            have g2 : ¬ 18 < -c := h18
            obtain ⟨q, hq, hq2⟩ := n_of (x := -c) (n := 19) (by omega) (Int32.le_trans (by decide) (Int32.not_lt.mp g1)) (by
              have := Int32.not_lt.mp g2
              exact Int32.lt_of_le_of_lt this (by decide))
            refine ⟨q - 12, ?_, by omega⟩
            rw [hq] at g1 ⊢
            have : ¬ q < 12 := fun e => g1 ((n_lt (b := 12) (by omega) (by omega)).mpr e)
            congr 1; omega
          obtain ⟨q, hq, hq7⟩ := hk
          have e12 : -c - 12 = nI q := by
            rw [hq, Nat.add_comm, ← n_add]
            exact Int32.add_sub_cancel _ _
          rw [e12, n_cl (by omega)] at hlev
          refine And.intro ?_ (And.intro zt ?_)
          · show zin (-c - 12) 7
            rw [e12]; exact n_zin hq7 (by decide)
          · show self [_, _, some (.inl (nI st.length + 1)), some (.inl (nI i + 1)), _, _] [] (zsL (I, L', P) 17 l (nI st.length).toNatClampNeg (L' 42 j (-c - 12).toNatClampNeg))
            rw [e12, n_cl (n := q) (by omega), wr L' st.length _ h64, n_succ st.length, hL 42 j q (by decide), hn q hq7]
            exact go (nm q :: st) _ (some (.inl c)) (some (.inl (-c))) rfl (we L' st.length (nm q) hL) (zSR_push hSR _) (by simp only [List.length_cons]; omega) hlev
    · rw [lev_push hneg] at hlev
      refine And.intro zt ?_
      show self [_, _, some (.inl (nI st.length + 1)), some (.inl (nI i + 1)), _, _] [] (zsL (I, L', P) 17 l (nI st.length).toNatClampNeg c.toInt64)
      rw [wr L' st.length _ h64, n_succ st.length]
      exact go (c.toInt64 :: st) _ (some (.inl c)) (some (.inl (-c))) rfl (we L' st.length _ hL) (zSR_push hSR _) (by simp only [List.length_cons]; omega) hlev
  · rintro Z S ⟨st, L', z4, z5, rfl, hz4, rfl, hL, hSR, hst, hlev⟩ self
    rw [List.drop_length] at hlev
    have hK := hK L' hL
    rw [← hlev] at hK
    refine And.intro (fun _ => ?_) (fun c => absurd c (lt_out hl))
    refine And.intro (fun c => ?_) (fun c => ?_)
    · have c : nI st.length = nI 1 := c
      rw [n_eq (by omega) (by omega)] at c
      match st, c with
      | [v], _ =>
        refine And.intro (n_zin (i := 0) (by decide) (by decide)) ?_
        have e := (zSR_top hSR).1
        have hK : K [.inr (.inl v)] (I, L', P) := hK
        rw [← e] at hK
        exact hK
    · have c : ¬ nI st.length = nI 1 := c
      rw [n_eq (by omega) (by omega)] at c
      match st, c with
      | [], _ => exact hK
      | [v], c => exact absurd rfl c
      | a :: b :: r, _ => exact hK
