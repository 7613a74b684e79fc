def mX11_rap (K : zQ) (T : Nat → zM → Prop) (as : List zV) (M : zM) : Prop := g_ent 3 (bX11_rap_0 K T) as M
theorem mdX11_rap : zMd yX11_rap 2 := ⟨by decide +kernel, by decide +kernel, by decide +kernel⟩
def xPre (G : zG) (as : List zV) (M : zM) : Array Value → State → Prop := fun v U => zPre G as M v U ∧ zEx G U U.heap
theorem xPre_blind {G : zG} {as : List zV} {M : zM} : FrameBlind (xPre G as M) := fun a U g mk q => ⟨zPre_blind a U g mk q.1, q.2.same rfl⟩
theorem xc_rap {G : zG} (hfl : G.1.stackTraces = false) {K : Int32 → zM → Prop} {T : Nat → zM → Prop} {as : List zV} {M : zM} (hf : mX11_rap (zK1 K) T as M) (hok : ∀ v ∈ as, zok v) (hI : zInj G) : vx_Met G.1 yX11_rap (zws yX11_rap YX11_rap) YX11_rap.2.2.2.2 (xPre G as M) (va_Qi K (zB1 G) (zA G)) (xXC G T) 1 6 (zA G) := by
  have hf : g_ent 3 (bX11_rap_0 (zK1 K) T) as M := hf
  unfold g_ent at hf
  cases hz : Nat.ble (zwd as) 3 with
  | false => rw [hz] at hf; exact hf.elim
  | true =>
    rw [hz] at hf
    have hw := Nat.le_of_ble_eq_true hz
    refine vx_ofW (cc := cX11_rap) (maxL := 3) (ret := some .int) (by decide) rfl ?_
    intro p e s m args below meth c s₁ B hml ht hv
    obtain ⟨⟨rfl, hM, hK⟩, hE⟩ := hv
    have hts : ∀ w ∈ zgw, w.before ((as.map (zcv G)).toArray) s = true := fun w h => atoms_spec (ws := zws yX11_rap YX11_rap) B.pre w (List.mem_cons_of_mem _ h)
    have hown : s.vm.findClass RX11 = some m.cls := findClass_of_methodNamed B.named
    have hC : zC G (p, e, s, m, (as.map (zcv G)).toArray, below, meth, c) YX11_rap := ⟨B.exec, B.bytes, hml, hown, hts, B.returns, B.notSynchronized, hK, hI⟩
    have hl := lv_entry (as.map (zcv G)) (n := 3) (by rw [zwd_sl]; exact hw)
    rw [lg_entry_eq]
    refine sX11_rap_0 (X := (p, e, s, m, (as.map (zcv G)).toArray, below, meth, c)) hC ⟨hfl, hE, ht⟩ (zent 3 as) [] M s.heap [] _ hf hM va_S.rf ⟨?_, zent_len as _ hw, fun i v hg => hok v (zent_mem as _ i v hg)⟩ (fun v h => by cases h)
    rw [zent_lst]
    exact hl
-- the class's rap, what it answers
theorem c_rap {K : Int32 → zM → Prop} {T : Nat → zM → Prop} {I : zI} {L : zJ} {P : zP} {A : aA} {r x : Int32} (hC : RC A I P) (hW : WW A) (hk : (v_rap A r x).1 = 0 → K (v_rap A r x).2 (I, L, P)) (ht : ∀ n : Nat, n = 1 ∨ n = 2 → (v_rap A r x).1 = nI n → T n (I, L, P)) : mX11_rap (zK1 K) T [kbR, .inl r, .inl x] (I, L, P) := by
  obtain ⟨t, hT, h11, h8, hS⟩ := hC.b
  have r10 := hT.r10
  unfold v_rap at hk ht
  show bX11_rap_0 (zK1 K) T [some (.inr (.inr (11,0))), some (.inl r), some (.inl x)] [] (I, L, P)
  unfold bX11_rap_0
  dsimp only [x_int, x_lng, x_ild, x_lld, x_ald, x_ist, x_ast, x_lst, x_inc, x_ii, x_id, x_i, x_ll, x_ld, x_l, x_cmp, x_i2l, x_l2i, x_if, x_ic, x_dup, x_pop, x_dup2, x_gI, x_gL, x_gR, x_g1, x_g0, x_gP, x_pI, x_pZ, x_pL, x_pP, x_al, x_as, x_all, x_asl, x_alr, x_len, x_cpy, x_m2, x_m1, x_m2l, x_m1l, x_call, x_cv, x_ri, x_rz, x_rl, x_rv, zg, zset, zbef, zlong, zcat, cond_true, cond_false, List.take, List.drop, rv1, rv2, rv3, rv4, rv5, rv6, rv7, sm0, sm1, bl0, bl1, bl2, bl3, bl4, bl5, bl6, bl7, bl8, List.nil_append, List.cons_append, List.length_cons, List.length_nil, Nat.reduceBEq, Nat.reduceAdd, Nat.reduceSub, ta, tb, tn0, tn1, tn2, tn3, tn4, tn5, tn6, tn7, tn8, tn9, tn10, tn11, tn12]
  refine p_isRapC hT h11 (fun ok => ?_) (fun no => ?_)
  · dsimp only [x_int, x_lng, x_ild, x_lld, x_ald, x_ist, x_ast, x_lst, x_inc, x_ii, x_id, x_i, x_ll, x_ld, x_l, x_cmp, x_i2l, x_l2i, x_if, x_ic, x_dup, x_pop, x_dup2, x_gI, x_gL, x_gR, x_g1, x_g0, x_gP, x_pI, x_pZ, x_pL, x_pP, x_al, x_as, x_all, x_asl, x_alr, x_len, x_cpy, x_m2, x_m1, x_m2l, x_m1l, x_call, x_cv, x_ri, x_rz, x_rl, x_rv, zg, zset, zbef, zlong, zcat, cond_true, cond_false, List.take, List.drop, rv1, rv2, rv3, rv4, rv5, rv6, rv7, sm0, sm1, bl0, bl1, bl2, bl3, bl4, bl5, bl6, bl7, bl8, List.nil_append, List.cons_append, List.length_cons, List.length_nil, Nat.reduceBEq, Nat.reduceAdd, Nat.reduceSub, ta, tb, tn0, tn1, tn2, tn3, tn4, tn5, tn6, tn7, tn8, tn9, tn10, tn11, tn12, g_sw, zk_36, zl_36, zk_37, zl_37, zk_38, zl_38, zk_39, zl_39, zk_40, zl_40, bX11_rap_129, g_thr]
    rw [if_pos ok] at hk ht
    obtain ⟨y, rfl, hy⟩ := ok_of (by omega) ok
    rw [n_cl (n := y) (by omega)] at hk ht ⊢
    obtain ⟨s1, s2, s3, s4, s5⟩ := hS.2.2.1 y hy
    rw [s1, s2, s3, s4, s5, h11, (hT.rap hy).1]
    have zy : zin (nI y) 10 := n_zin (by omega) (by decide)
    have h7 := ((hW.2.2.2.1).2.1 y hy).2
    refine ⟨fun q => absurd q (by decide), fun _ => ⟨fun e0 => ⟨hT.1, zy, ?_⟩, fun e0 => ⟨fun e1 => ⟨zy, ?_⟩, fun e1 => ⟨fun e2 => ⟨zy, ?_⟩, fun e2 => ⟨fun e3 => ⟨zy, ?_⟩, fun e3 => ⟨fun e4 => ⟨zy, ?_⟩, fun e4 => ⟨fun e5 => p_isFaded r10 hS hy ?_, fun e5 => ⟨fun e6 => ⟨zy, ?_⟩, fun e6 => ?_⟩⟩⟩⟩⟩⟩⟩⟩
    · rw [if_pos e0] at hk; exact ⟨_, rfl, hk rfl⟩
    · rw [if_neg e0, if_pos e1] at hk; exact ⟨_, rfl, hk rfl⟩
    · rw [if_neg e0, if_neg e1, if_pos e2] at hk; exact ⟨_, rfl, hk rfl⟩
    · rw [if_neg e0, if_neg e1, if_neg e2, if_pos e3] at hk; exact ⟨_, rfl, hk rfl⟩
    · rw [if_neg e0, if_neg e1, if_neg e2, if_neg e3, if_pos e4] at hk; exact ⟨_, rfl, hk rfl⟩
    · rw [if_neg e0, if_neg e1, if_neg e2, if_neg e3, if_neg e4, if_pos e5] at hk
      have hk := hk rfl
      dsimp only [x_int, x_lng, x_ild, x_lld, x_ald, x_ist, x_ast, x_lst, x_inc, x_ii, x_id, x_i, x_ll, x_ld, x_l, x_cmp, x_i2l, x_l2i, x_if, x_ic, x_dup, x_pop, x_dup2, x_gI, x_gL, x_gR, x_g1, x_g0, x_gP, x_pI, x_pZ, x_pL, x_pP, x_al, x_as, x_all, x_asl, x_alr, x_len, x_cpy, x_m2, x_m1, x_m2l, x_m1l, x_call, x_cv, x_ri, x_rz, x_rl, x_rv, zg, zset, zbef, zlong, zcat, cond_true, cond_false, List.take, List.drop, rv1, rv2, rv3, rv4, rv5, rv6, rv7, sm0, sm1, bl0, bl1, bl2, bl3, bl4, bl5, bl6, bl7, bl8, List.nil_append, List.cons_append, List.length_cons, List.length_nil, Nat.reduceBEq, Nat.reduceAdd, Nat.reduceSub, ta, tb, tn0, tn1, tn2, tn3, tn4, tn5, tn6, tn7, tn8, tn9, tn10, tn11, tn12]
      rcases h7 with h7 | h7
      · rw [h7, if_pos rfl] at hk
        rw [h7]
        exact ⟨fun _ => ⟨_, rfl, hk⟩, fun z => absurd (by decide) z⟩
      · rw [h7, if_neg (by decide)] at hk
        rw [h7]
        exact ⟨fun z => absurd z (by decide), fun _ => ⟨_, rfl, hk⟩⟩
    · rw [if_neg e0, if_neg e1, if_neg e2, if_neg e3, if_neg e4, if_neg e5, if_pos e6] at hk; exact ⟨_, rfl, hk rfl⟩
    · rw [if_neg e0, if_neg e1, if_neg e2, if_neg e3, if_neg e4, if_neg e5, if_neg e6] at ht
      exact ht 2 (Or.inr rfl) rfl
  · dsimp only [x_int, x_lng, x_ild, x_lld, x_ald, x_ist, x_ast, x_lst, x_inc, x_ii, x_id, x_i, x_ll, x_ld, x_l, x_cmp, x_i2l, x_l2i, x_if, x_ic, x_dup, x_pop, x_dup2, x_gI, x_gL, x_gR, x_g1, x_g0, x_gP, x_pI, x_pZ, x_pL, x_pP, x_al, x_as, x_all, x_asl, x_alr, x_len, x_cpy, x_m2, x_m1, x_m2l, x_m1l, x_call, x_cv, x_ri, x_rz, x_rl, x_rv, zg, zset, zbef, zlong, zcat, cond_true, cond_false, List.take, List.drop, rv1, rv2, rv3, rv4, rv5, rv6, rv7, sm0, sm1, bl0, bl1, bl2, bl3, bl4, bl5, bl6, bl7, bl8, List.nil_append, List.cons_append, List.length_cons, List.length_nil, Nat.reduceBEq, Nat.reduceAdd, Nat.reduceSub, ta, tb, tn0, tn1, tn2, tn3, tn4, tn5, tn6, tn7, tn8, tn9, tn10, tn11, tn12, g_thr]
    rw [if_neg no] at ht
    exact ⟨fun _ => ht 1 (Or.inl rfl) rfl, fun z => absurd rfl z⟩
