/-- the locals of the law at the loop's head -/
abbrev lawV (b q1 q2 q3 : Nat) (x4 : Int32) : List (Nat × Value) := [(0, .ref b), (1, .ref q1), (2, .ref q2), (3, .ref q3), (4, .int x4)]
/-- a cell of the script: five instructions -/
theorem l_scr {G : zG} {X : zX} {Y : zY} {Q : State → Prop} {pc kc ks : Nat} (h : zC G X Y) {b L i c q1 q2 q3 : Nat} {xs : Nat → Int32} {n : Int} {H : Heap} {locs : List Loc} {arr : Array Slot} {st0 : List Value} {nL : Nat} (hX : va_X b L xs X.2.2.1 X.2.2.1.heap) (hbl : b < X.2.2.1.heap.size) (hbA : ¬ zA G b) (hS : va_S (zA G) X.2.2.1.heap H locs) (hl : lv_has arr nL (lawV b q1 q2 q3 (nI i))) (hL : L ≤ 3072) (hi : i + c < L) (hn : Int32.ofInt n = nI c)
    (d1 : decode Y.2.1 pc = .ok (.aload_n 0, 1)) (d2 : decode Y.2.1 (pc + 1) = .ok (.iload 4, 2)) (d3 : decode Y.2.1 (pc + 3) = .ok (.iconst n, 1)) (d4 : decode Y.2.1 (pc + 4) = .ok (.iadd, 1)) (d5 : decode Y.2.1 (pc + 5) = .ok (.iaload, 1))
    (kk : zWL G X Y kc ks H locs Q (zFr X (pc + 6) arr (.int (xs (i + c)) :: st0))) : zWL G X Y kc ks H locs Q (zFr X pc arr st0) := by
  obtain ⟨hx, hb, hml, hown, hts, hr, hlk, hK, hI⟩ := h
  refine lv_aload_n hx hb d1 rfl (lv_at hl 0 rfl) ?_
  refine lv_iload hx hb d2 (lv_at hl 4 rfl) ?_
  refine lv_iconst (v := nI c) hx hb d3 hn ?_
  refine lv_iadd hx hb d4 ?_
  rw [n_add]
  refine va_sld hx hb hX hbl hbA hS (vp_in_nI hi (by omega)) d5 ?_
  rw [n_cl (n := i + c) (by omega)]
  exact kk
