-- THE MACHINE LAYER OVER A PART OF THE CELLS: cn k of kind k are there (written by wip/gen/pcore.py out of 04.core)
section YP
variable {cn : Nat → Nat}
def yok (cn : Nat → Nat) (v : zV) : Prop := match v with
  | .inr (.inr (k, i)) => i < cn k
  | _ => True
def yRep (cn : Nat → Nat) (G : zG) (M : zM) (H : Heap) : Prop := ∀ k i, i < cn k → va_at G.2.2.1 classes (G.2.2.2.2 k i, zcell G M k i) H
def yInj (cn : Nat → Nat) (G : zG) : Prop := (∀ k i k' i', i < cn k → i' < cn k' → G.2.2.2.2 k i = G.2.2.2.2 k' i' → k = k' ∧ i = i') ∧ ∀ k i, i < cn k → G.2.1 ≤ G.2.2.2.2 k i
def yLc (cn : Nat → Nat) (G : zG) (nL : Nat) (arr : Array Slot) (ls : zL) : Prop := lv_has arr nL (zlst G 0 ls) ∧ ls.length = nL ∧ ∀ i v, zg ls i = some v → yok cn v
def yC (cn : Nat → Nat) (G : zG) (X : zX) (Y : zY) : Prop :=
  X.1.tables.exec = Jvm.exec ∧ X.2.2.2.2.2.2.2.code = Y.2.1 ∧ X.2.2.2.2.2.2.2.maxLocals = Y.2.2.1 ∧ X.2.2.1.vm.findClass Y.1 = some X.2.2.2.1.cls ∧ (∀ w ∈ zgw, w.before X.2.2.2.2.1 X.2.2.1 = true) ∧ X.2.2.2.2.2.2.1.sig.returnType = Y.2.2.2.1 ∧ X.2.2.2.2.2.2.1.locks = false ∧ zKn G X.2.2.1 ∧ yInj cn G
def yAt (cn : Nat → Nat) (G : zG) (X : zX) (Y : zY) (Q : State → Prop) (pc : Nat) (f : zF) : Prop :=
  ∀ (ls : zL) (st : List zV) (M : zM) (H : Heap) (locs : List Loc) (arr : Array Slot), f ls st M → yRep cn G M H → va_S (zA G) X.2.2.1.heap H locs → yLc cn G Y.2.2.1 arr ls → (∀ v ∈ st, yok cn v) → zW G X Y H locs Q (zFr X pc arr (st.map (zcv G)))
theorem yLc.at {G : zG} {nL : Nat} {arr : Array Slot} {ls : zL} (h : yLc cn G nL arr ls) {i : Nat} {v : zV} (hg : zg ls i = some v) : arr[i]? = some (.val (zcv G v)) :=
  h.1.2.2 (i, zcv G v) (zlst_mem.mpr ⟨i, v, hg, by simp⟩)
theorem yLc.put1 {G : zG} {nL : Nat} {arr arr' : Array Slot} {ls : zL} (h : yLc cn G nL arr ls) {i : Nat} {v : zV} (hi : i < ls.length) (hb : zbef ls i = false) (hv : yok cn v)
    (hn : lv_has arr' nL ((i, zcv G v) :: (zlst G 0 ls).filter (fun q => !(q.1 == i) && !(q.1 + 1 == i && q.2.category == 2)))) : yLc cn G nL arr' (zset ls i (some v)) := by
  refine ⟨⟨hn.1, hn.2.1, fun q hq => hn.2.2 q ?_⟩, by rw [zset_len]; exact h.2.1, fun j u hj => ?_⟩
  · obtain ⟨j, u, h1, h2⟩ := zlst_mem.mp hq
    rw [zg_set hi] at h1
    by_cases e : j = i
    · rw [if_pos e] at h1
      cases h1
      rw [h2, e, Nat.zero_add]
      exact List.mem_cons_self
    · rw [if_neg e] at h1
      refine List.mem_cons_of_mem _ (List.mem_filter.mpr ⟨zlst_mem.mpr ⟨j, u, h1, h2⟩, ?_⟩)
      subst h2
      simp only [Nat.zero_add, zcat_cv]
      have e1 : (j == i) = false := by simpa using e
      rw [e1]
      by_cases e2 : j + 1 = i
      · subst e2
        have h3 : zlong (zg ls j) = false := hb
        rw [h1] at h3
        have : (zcat u == 2) = false := by
          rcases u with x | x | x
          · rfl
          · cases h3
          · rfl
        rw [this]; simp
      · have : (j + 1 == i) = false := by simpa using e2
        rw [this]; rfl
  · rw [zg_set hi] at hj
    by_cases e : j = i
    · rw [if_pos e] at hj
      cases hj
      exact hv
    · rw [if_neg e] at hj
      exact h.2.2 j u hj
section YZS
variable {G : zG} {X : zX} {Y : zY} {Q : State → Prop} {pc : Nat} {f g : zF}
theorem y_iconst (h : yC cn G X Y) {n : Int} {v : Int32} (hd : decode Y.2.1 pc = .ok (.iconst n, 1)) (hv : Int32.ofInt n = v) (k : yAt cn G X Y Q (pc + 1) f) : yAt cn G X Y Q pc (g_int v f) := by
  intro ls st M H locs arr hf hM hS hL hst
  obtain ⟨hx, hb, hml, hown, hts, hr, hlk, hK, hI⟩ := h
  exact lv_iconst hx hb hd hv (k _ _ _ _ _ _ hf hM hS hL (List.forall_mem_cons.mpr ⟨trivial, hst⟩))
theorem y_bipush (h : yC cn G X Y) {n : Int} {v : Int32} (hd : decode Y.2.1 pc = .ok (.bipush n, 2)) (hv : (Int8.ofInt n).toInt32 = v) (k : yAt cn G X Y Q (pc + 2) f) : yAt cn G X Y Q pc (g_int v f) := by
  intro ls st M H locs arr hf hM hS hL hst
  obtain ⟨hx, hb, hml, hown, hts, hr, hlk, hK, hI⟩ := h
  exact lv_bipush hx hb hd hv (k _ _ _ _ _ _ hf hM hS hL (List.forall_mem_cons.mpr ⟨trivial, hst⟩))
theorem y_iload_n (h : yC cn G X Y) {k9 : Fin 4} {i : Nat} (hd : decode Y.2.1 pc = .ok (.iload_n k9, 1)) (hi : (k9 : Nat) = i) (k : yAt cn G X Y Q (pc + 1) f) : yAt cn G X Y Q pc (g_ild i f) := by
  intro ls st M H locs arr hf hM hS hL hst
  obtain ⟨hx, hb, hml, hown, hts, hr, hlk, hK, hI⟩ := h
  unfold g_ild at hf
  split at hf
  · rename_i x9 hg
    exact lv_iload_n hx hb hd hi (hL.at hg) (k _ _ _ _ _ _ hf hM hS hL (List.forall_mem_cons.mpr ⟨hL.2.2 _ _ hg, hst⟩))
  · exact hf.elim
theorem y_aload_n (h : yC cn G X Y) {k9 : Fin 4} {i : Nat} (hd : decode Y.2.1 pc = .ok (.aload_n k9, 1)) (hi : (k9 : Nat) = i) (k : yAt cn G X Y Q (pc + 1) f) : yAt cn G X Y Q pc (g_ald i f) := by
  intro ls st M H locs arr hf hM hS hL hst
  obtain ⟨hx, hb, hml, hown, hts, hr, hlk, hK, hI⟩ := h
  unfold g_ald at hf
  split at hf
  · rename_i x9 hg
    exact lv_aload_n hx hb hd hi (hL.at hg) (k _ _ _ _ _ _ hf hM hS hL (List.forall_mem_cons.mpr ⟨hL.2.2 _ _ hg, hst⟩))
  · exact hf.elim
theorem y_istore_n (h : yC cn G X Y) {k9 : Fin 4} {i : Nat} (hd : decode Y.2.1 pc = .ok (.istore_n k9, 1)) (hi : (k9 : Nat) = i) (hn : i < Y.2.2.1) (k : yAt cn G X Y Q (pc + 1) f) : yAt cn G X Y Q pc (g_ist i f) := by
  intro ls st M H locs arr hf hM hS hL hst
  obtain ⟨hx, hb, hml, hown, hts, hr, hlk, hK, hI⟩ := h
  unfold g_ist at hf
  split at hf
  · rename_i x9 r9
    cases hz : zbef ls i with
    | true => rw [hz] at hf; exact hf.elim
    | false =>
      rw [hz] at hf
      have ho := (List.forall_mem_cons.mp hst)
      refine lv_istore_n hx hb hd hi hL.1 hn rfl (fun arr' hl' => ?_)
      exact k _ _ _ _ _ _ hf hM hS (hL.put1 (by rw [hL.2.1]; exact hn) hz ho.1 hl') ho.2
  · exact hf.elim
theorem y_iinc (h : yC cn G X Y) {i : Nat} {n : Int} {v : Int32} (hd : decode Y.2.1 pc = .ok (.iinc i n, 3)) (hv : Int32.ofInt n = v) (hn : i < Y.2.2.1) (k : yAt cn G X Y Q (pc + 3) f) : yAt cn G X Y Q pc (g_inc i v f) := by
  intro ls st M H locs arr hf hM hS hL hst
  obtain ⟨hx, hb, hml, hown, hts, hr, hlk, hK, hI⟩ := h
  unfold g_inc at hf
  split at hf
  · rename_i x9 hg
    cases hz : zbef ls i with
    | true => rw [hz] at hf; exact hf.elim
    | false =>
      rw [hz] at hf
      subst hv
      obtain ⟨j, hj⟩ := List.getElem?_of_mem (zlst_mem.mpr ⟨i, _, hg, rfl⟩ : (0 + i, zcv G (.inl x9)) ∈ zlst G 0 ls)
      rw [Nat.zero_add] at hj
      refine lv_iinc hx hb hd hL.1 hj rfl hn rfl (fun arr' hl' => ?_)
      exact k _ _ _ _ _ _ hf hM hS (hL.put1 (v := .inl (x9 + Int32.ofInt n)) (by rw [hL.2.1]; exact hn) hz trivial hl') hst
  · exact hf.elim
theorem y_iadd (h : yC cn G X Y) (hd : decode Y.2.1 pc = .ok (.iadd, 1)) (k : yAt cn G X Y Q (pc + 1) f) : yAt cn G X Y Q pc (g_ii (fun x y => x + y) f) := by
  intro ls st M H locs arr hf hM hS hL hst
  obtain ⟨hx, hb, hml, hown, hts, hr, hlk, hK, hI⟩ := h
  unfold g_ii at hf
  split at hf
  · have ho := List.forall_mem_cons.mp hst
    have ho2 := List.forall_mem_cons.mp ho.2
    exact lv_iadd hx hb hd (k _ _ _ _ _ _ hf hM hS hL (List.forall_mem_cons.mpr ⟨trivial, ho2.2⟩))
  · exact hf.elim
theorem y_isub (h : yC cn G X Y) (hd : decode Y.2.1 pc = .ok (.isub, 1)) (k : yAt cn G X Y Q (pc + 1) f) : yAt cn G X Y Q pc (g_ii (fun x y => x - y) f) := by
  intro ls st M H locs arr hf hM hS hL hst
  obtain ⟨hx, hb, hml, hown, hts, hr, hlk, hK, hI⟩ := h
  unfold g_ii at hf
  split at hf
  · have ho := List.forall_mem_cons.mp hst
    have ho2 := List.forall_mem_cons.mp ho.2
    exact lv_isub hx hb hd (k _ _ _ _ _ _ hf hM hS hL (List.forall_mem_cons.mpr ⟨trivial, ho2.2⟩))
  · exact hf.elim
theorem y_imul (h : yC cn G X Y) (hd : decode Y.2.1 pc = .ok (.imul, 1)) (k : yAt cn G X Y Q (pc + 1) f) : yAt cn G X Y Q pc (g_ii (fun x y => x * y) f) := by
  intro ls st M H locs arr hf hM hS hL hst
  obtain ⟨hx, hb, hml, hown, hts, hr, hlk, hK, hI⟩ := h
  unfold g_ii at hf
  split at hf
  · have ho := List.forall_mem_cons.mp hst
    have ho2 := List.forall_mem_cons.mp ho.2
    exact lv_imul hx hb hd (k _ _ _ _ _ _ hf hM hS hL (List.forall_mem_cons.mpr ⟨trivial, ho2.2⟩))
  · exact hf.elim
theorem y_ishl (h : yC cn G X Y) (hd : decode Y.2.1 pc = .ok (.ishl, 1)) (k : yAt cn G X Y Q (pc + 1) f) : yAt cn G X Y Q pc (g_ii (fun x y => x <<< (y &&& 31)) f) := by
  intro ls st M H locs arr hf hM hS hL hst
  obtain ⟨hx, hb, hml, hown, hts, hr, hlk, hK, hI⟩ := h
  unfold g_ii at hf
  split at hf
  · have ho := List.forall_mem_cons.mp hst
    have ho2 := List.forall_mem_cons.mp ho.2
    exact lv_ishl hx hb hd (k _ _ _ _ _ _ hf hM hS hL (List.forall_mem_cons.mpr ⟨trivial, ho2.2⟩))
  · exact hf.elim
theorem y_i2l (h : yC cn G X Y) (hd : decode Y.2.1 pc = .ok (.i2l, 1)) (k : yAt cn G X Y Q (pc + 1) f) : yAt cn G X Y Q pc (g_i2l f) := by
  intro ls st M H locs arr hf hM hS hL hst
  obtain ⟨hx, hb, hml, hown, hts, hr, hlk, hK, hI⟩ := h
  unfold g_i2l at hf
  split at hf
  · have ho := List.forall_mem_cons.mp hst
    exact lv_i2l hx hb hd rfl (k _ _ _ _ _ _ hf hM hS hL (List.forall_mem_cons.mpr ⟨trivial, ho.2⟩))
  · exact hf.elim
theorem y_if_lt (h : yC cn G X Y) {off : Int} {tgt : Nat} (hd : decode Y.2.1 pc = .ok (.ifCond .lt off, 3)) (ht : (pc : Int) + off = (tgt : Int)) (kt : yAt cn G X Y Q tgt f) (kf : yAt cn G X Y Q (pc + 3) g) : yAt cn G X Y Q pc (g_if (fun x => x < 0) f g) := by
  intro ls st M H locs arr hf hM hS hL hst
  obtain ⟨hx, hb, hml, hown, hts, hr, hlk, hK, hI⟩ := h
  unfold g_if at hf
  split at hf
  · have ho := List.forall_mem_cons.mp hst
    exact lv_if_lt hx hb hd ht (fun q => kt _ _ _ _ _ _ (hf.1 q) hM hS hL ho.2) (fun q => kf _ _ _ _ _ _ (hf.2 q) hM hS hL ho.2)
  · exact hf.elim
theorem y_icmp_ge (h : yC cn G X Y) {off : Int} {tgt : Nat} (hd : decode Y.2.1 pc = .ok (.if_icmp .ge off, 3)) (ht : (pc : Int) + off = (tgt : Int)) (kt : yAt cn G X Y Q tgt f) (kf : yAt cn G X Y Q (pc + 3) g) : yAt cn G X Y Q pc (g_ic (fun x y => y ≤ x) f g) := by
  intro ls st M H locs arr hf hM hS hL hst
  obtain ⟨hx, hb, hml, hown, hts, hr, hlk, hK, hI⟩ := h
  unfold g_ic at hf
  split at hf
  · have ho := List.forall_mem_cons.mp hst
    have ho2 := List.forall_mem_cons.mp ho.2
    exact lv_icmp_ge hx hb hd ht (fun q => kt _ _ _ _ _ _ (hf.1 q) hM hS hL ho2.2) (fun q => kf _ _ _ _ _ _ (hf.2 q) hM hS hL ho2.2)
  · exact hf.elim
theorem y_goto (h : yC cn G X Y) {off : Int} {tgt : Nat} (hd : decode Y.2.1 pc = .ok (.goto off, 3)) (ht : (pc : Int) + off = (tgt : Int)) (k : yAt cn G X Y Q tgt f) : yAt cn G X Y Q pc f := by
  intro ls st M H locs arr hf hM hS hL hst
  obtain ⟨hx, hb, hml, hown, hts, hr, hlk, hK, hI⟩ := h
  exact lv_goto hx hb hd ht (k _ _ _ _ _ _ hf hM hS hL hst)
theorem y_loop {b : zF → zF} (hb : ∀ self, yAt cn G X Y Q pc self → yAt cn G X Y Q pc (b self)) : yAt cn G X Y Q pc (g_loop b) := by
  have key : ∀ n, yAt cn G X Y Q pc (ziter b n) := by
    intro n
    induction n with
    | zero => intro ls st M H locs arr hf; exact hf.elim
    | succ n ih => exact hb _ ih
  intro ls st M H locs arr hf hM hS hL hst
  obtain ⟨n, hn⟩ := hf
  exact key n ls st M H locs arr hn hM hS hL hst
theorem yat1 {G : zG} {M : zM} {H : Heap} {k i : Nat} {e : va_E} (hM : yRep cn G M H) (hi : i < cn k) (he : zcell G M k i = e) : va_P G.2.2.1 classes [(G.2.2.2.2 k i, e)] H := by
  intro j q hq
  have hj : j < 1 := (List.getElem?_eq_some_iff.mp hq).1
  rw [show j = 0 by omega] at hq
  cases hq
  have h9 := hM k i hi
  rw [he] at h9
  exact h9
theorem ygetf (h : yC cn G X Y) {k s : Nat} {C : String} {T : u_T} {N : Nat} {ty : Nat → FieldType} (hc : zCl k C T N ty) (hs : s < N) {n : Nat} (hl : Cond.fieldLink Y.1 n (T s).1 (T s).2.1 (T s).2.2.1 ∈ zgw) (hd : decode Y.2.1 pc = .ok (.getfield n, 3))
    {M : zM} {H : Heap} {locs : List Loc} {arr : Array Slot} {rest : List Value} {i : Nat} (hM : yRep cn G M H) (hi : i < cn k) (kk : zW G X Y H locs Q (zFr X (pc + 3) arr (zfv G M k i s (zsl k s) :: rest))) : zW G X Y H locs Q (zFr X pc arr (.ref (G.2.2.2.2 k i) :: rest)) := by
  obtain ⟨hx, hb, hml, hown, hts, hr, hlk, hK, hI⟩ := h
  obtain ⟨c1, c2, c3, c4, c5, c6, c7⟩ := hc
  have hP := yat1 hM hi (zcell_obj c1)
  rw [c2, c3] at hP
  refine va_get (D := G.2.2.1) (ci := k) (v := zfv G M k i s (zsl k s)) (C := C) (T := T) (N := N) hx hb hts c5 hown hK.1 hP 0 rfl c4 s hs (hts _ hl) (fun _ h9 => h9) ?_ hd kk
  rw [List.getElem?_map, List.getElem?_range hs]
  rfl
theorem y_gI (h : yC cn G X Y) {k s : Nat} {C : String} {T : u_T} {N : Nat} {ty : Nat → FieldType} (hc : zCl k C T N ty) (hs : s < N) (hk : (zsl k s).1 = 0 ∨ (zsl k s).1 = 1) {n : Nat} (hl : Cond.fieldLink Y.1 n (T s).1 (T s).2.1 (T s).2.2.1 ∈ zgw) (hd : decode Y.2.1 pc = .ok (.getfield n, 3)) (kk : yAt cn G X Y Q (pc + 3) f) : yAt cn G X Y Q pc (g_gI k s f) := by
  intro ls st M H locs arr hf hM hS hL hst
  unfold g_gI at hf
  split at hf
  · rename_i k' i r
    cases hz : (k' == k) with
    | false => rw [hz] at hf; exact hf.elim
    | true =>
      rw [hz] at hf
      have e : k' = k := by simpa using hz
      subst e
      have ho := List.forall_mem_cons.mp hst
      refine ygetf h hc hs hl hd hM ho.1 ?_
      have : zfv G M k' i s (zsl k' s) = .int (M.1 k' i s) := by
        unfold zfv
        rcases hk with e | e <;> rw [e] <;> rfl
      rw [this]
      exact kk _ _ _ _ _ _ hf hM hS hL (List.forall_mem_cons.mpr ⟨trivial, ho.2⟩)
  · exact hf.elim
theorem y_gR (h : yC cn G X Y) {k s tk a c : Nat} {C : String} {T : u_T} {N : Nat} {ty : Nat → FieldType} (hc : zCl k C T N ty) (hs : s < N) (hk : zsl k s = (3, tk, a, 0, c)) (hv : ∀ i, i < cn k → a * i + c < cn tk) {n : Nat} (hl : Cond.fieldLink Y.1 n (T s).1 (T s).2.1 (T s).2.2.1 ∈ zgw) (hd : decode Y.2.1 pc = .ok (.getfield n, 3)) (kk : yAt cn G X Y Q (pc + 3) f) : yAt cn G X Y Q pc (g_gR k s tk a c f) := by
  intro ls st M H locs arr hf hM hS hL hst
  unfold g_gR at hf
  split at hf
  · rename_i k' i r
    cases hz : (k' == k) with
    | false => rw [hz] at hf; exact hf.elim
    | true =>
      rw [hz] at hf
      have e : k' = k := by simpa using hz
      subst e
      have ho := List.forall_mem_cons.mp hst
      refine ygetf h hc hs hl hd hM ho.1 ?_
      have : zfv G M k' i s (zsl k' s) = .ref (G.2.2.2.2 tk (a * i + c)) := by
        unfold zfv
        rw [hk]
        try rfl
      rw [this]
      exact kk _ _ _ _ _ _ hf hM hS hL (List.forall_mem_cons.mpr ⟨hv i ho.1, ho.2⟩)
  · exact hf.elim
theorem y_g1 (h : yC cn G X Y) {k s tk : Nat} {C : String} {T : u_T} {N : Nat} {ty : Nat → FieldType} (hc : zCl k C T N ty) (hs : s < N) (hk : zsl k s = (3, tk, 1, 0, 0)) (hv : ∀ i, i < cn k → 1 * i + 0 < cn tk) {n : Nat} (hl : Cond.fieldLink Y.1 n (T s).1 (T s).2.1 (T s).2.2.1 ∈ zgw) (hd : decode Y.2.1 pc = .ok (.getfield n, 3)) (kk : yAt cn G X Y Q (pc + 3) f) : yAt cn G X Y Q pc (g_g1 k s tk f) := by
  have e : g_g1 k s tk f = g_gR k s tk 1 0 f := by
    funext ls st M
    unfold g_g1 g_gR
    simp only [Nat.one_mul, Nat.add_zero]
  rw [e]
  exact y_gR h hc hs hk hv hl hd kk
theorem yputf (h : yC cn G X Y) {k s : Nat} {C : String} {T : u_T} {N : Nat} {ty : Nat → FieldType} (hc : zCl k C T N ty) (hs : s < N) (hfin : (T s).2.2.2 = false) {n : Nat} (hl : Cond.fieldLink Y.1 n (T s).1 (T s).2.1 (T s).2.2.1 ∈ zgw) (hd : decode Y.2.1 pc = .ok (.putfield n, 3))
    {M M' : zM} {H : Heap} {locs : List Loc} {arr : Array Slot} {rest : List Value} {i : Nat} {v : Value} (hM : yRep cn G M H) (hS0 : va_S (zA G) X.2.2.1.heap H locs) (hi : i < cn k) (hn : narrow (ty s) v = v) (hfit : fits (ty s) v = true) (hv : zfv G M' k i s (zsl k s) = v) (hot : ∀ s', s' ≠ s → zfv G M' k i s' (zsl k s') = zfv G M k i s' (zsl k s')) (hoc : ∀ k' i', i' < cn k' → ¬ (k' = k ∧ i' = i) → zcell G M' k' i' = zcell G M k' i')
    (kk : ∀ (H1 : Heap) (locs1 : List Loc), yRep cn G M' H1 → va_S (zA G) X.2.2.1.heap H1 locs1 → zW G X Y H1 locs1 Q (zFr X (pc + 3) arr rest)) : zW G X Y H locs Q (zFr X pc arr (v :: .ref (G.2.2.2.2 k i) :: rest)) := by
  obtain ⟨hx, hb, hml, hown, hts, hr, hlk, hK, hI⟩ := h
  obtain ⟨c1, c2, c3, c4, c5, c6, c7⟩ := hc
  have hK1 := hK.1
  have hap := va_apart (own := Y.1) hts c5 ty c6 c7 hK1 c4
  have hP := yat1 hM hi (zcell_obj c1)
  rw [c2, c3] at hP
  obtain ⟨r, h1, cell, q1, q2, q3, q4⟩ := hP 0 _ rfl
  have hr : r = (C, T, N) := Option.some.inj (h1.symm.trans c4)
  subst hr
  obtain ⟨hS, hfc, kC, hkC, hkind⟩ := hK1.1 k _ c4
  obtain ⟨cf, kf, fi, f9, hi9, hsl⟩ := hS s hs
  have hlay := hts _ (c5 _ (u_in_lay hs))
  unfold u_lay at hlay
  rw [if_neg (by rw [hfin]; decide)] at hlay
  have hst := (u_facts hfc hkC (u_lays hts c5 hs) hi9).1
  have h6 := u_store hfc hkC hkind hlay hi9 (c6 s hs) hn hfit
  refine W.putK hx hb (f := f9) ⟨hown, hts _ hl, ⟨_, _, _, hi9⟩, hst⟩ (by rw [q2]; exact h6) q1 q3 (by rw [hsl]; exact k2_hasslot (q4 s hs)) rfl rfl hd fun H' e1 e2 e3 => ?_
  rw [hsl] at e1 ⊢
  refine kk H' _ ?_ (hS0.put e2 e3 (hI.2 k i hi))
  intro k' i' hi'
  by_cases e : k' = k ∧ i' = i
  · obtain ⟨rfl, rfl⟩ := e
    rw [zcell_obj c1, c2, c3]
    refine ⟨_, c4, t_OB.to (V := updV (vp_V ((List.range N).map fun s => zfv G M k' i' s (zsl k' s))) s v) ⟨_, e1, q2, q3, t_set q4 hap hs v⟩ (fun j hj => ?_)⟩
    have e9 : ∀ (M9 : zM), vp_V ((List.range N).map fun s => zfv G M9 k' i' s (zsl k' s)) j = zfv G M9 k' i' j (zsl k' j) := by
      intro M9
      unfold vp_V
      rw [List.getD_eq_getElem?_getD, List.getElem?_map, List.getElem?_range hj]
      rfl
    rw [e9]
    unfold updV
    by_cases ej : j = s
    · subst ej
      rw [if_pos rfl]
      exact hv.symm
    · rw [if_neg ej, e9, hot j ej]
  · have hne : G.2.2.2.2 k' i' ≠ G.2.2.2.2 k i := fun q => e (hI.1 k' i' k i hi' hi q)
    rw [hoc k' i' hi' e]
    exact (hM k' i' hi').kept (e3 _ hne)
theorem y_pI (h : yC cn G X Y) {k s : Nat} {C : String} {T : u_T} {N : Nat} {ty : Nat → FieldType} (hc : zCl k C T N ty) (hs : s < N) (hk : (zsl k s).1 = 0) (hty : ty s = .int) (hfin : (T s).2.2.2 = false) {n : Nat} (hl : Cond.fieldLink Y.1 n (T s).1 (T s).2.1 (T s).2.2.1 ∈ zgw) (hd : decode Y.2.1 pc = .ok (.putfield n, 3)) (kk : yAt cn G X Y Q (pc + 3) f) : yAt cn G X Y Q pc (g_pI k s f) := by
  intro ls st M H locs arr hf hM hS hL hst
  unfold g_pI at hf
  split at hf
  · rename_i v k' i r
    cases hz : (k' == k) with
    | false => rw [hz] at hf; exact hf.elim
    | true =>
      rw [hz] at hf
      have e : k' = k := by simpa using hz
      subst e
      have ho := List.forall_mem_cons.mp hst
      have ho2 := List.forall_mem_cons.mp ho.2
      refine yputf (M' := zsI M k' i s v) h hc hs hfin hl hd hM hS ho2.1 (by rw [hty]; rfl) (by rw [hty]; rfl) ?_ (fun s' e => zfv_sI (fun q => e q.2.2)) (fun k2 i2 _ e => zcell_sI e) (fun H1 locs1 hM1 hS1 => kk _ _ _ _ _ _ hf hM1 hS1 hL ho2.2)
      unfold zfv
      rw [hk]
      simp [zsI, zcv]
  · exact hf.elim
theorem y_pZ (h : yC cn G X Y) {k s : Nat} {C : String} {T : u_T} {N : Nat} {ty : Nat → FieldType} (hc : zCl k C T N ty) (hs : s < N) (hk : (zsl k s).1 = 1) (hty : ty s = .boolean) (hfin : (T s).2.2.2 = false) {n : Nat} (hl : Cond.fieldLink Y.1 n (T s).1 (T s).2.1 (T s).2.2.1 ∈ zgw) (hd : decode Y.2.1 pc = .ok (.putfield n, 3)) (kk : yAt cn G X Y Q (pc + 3) f) : yAt cn G X Y Q pc (g_pZ k s f) := by
  intro ls st M H locs arr hf hM hS hL hst
  unfold g_pZ at hf
  split at hf
  · rename_i v k' i r
    cases hz : (k' == k) with
    | false => rw [hz] at hf; exact hf.elim
    | true =>
      rw [hz] at hf
      have e : k' = k := by simpa using hz
      subst e
      have ho := List.forall_mem_cons.mp hst
      have ho2 := List.forall_mem_cons.mp ho.2
      have hf : zb v ∧ f ls r (zsI M k' i s v) := hf
      refine yputf (M' := zsI M k' i s v) h hc hs hfin hl hd hM hS ho2.1 (by rw [hty]; exact (zb_nar hf.1).1) (by rw [hty]; exact (zb_nar hf.1).2) ?_ (fun s' e => zfv_sI (fun q => e q.2.2)) (fun k2 i2 _ e => zcell_sI e) (fun H1 locs1 hM1 hS1 => kk _ _ _ _ _ _ hf.2 hM1 hS1 hL ho2.2)
      unfold zfv
      rw [hk]
      simp [zsI, zcv]
  · exact hf.elim
theorem y_pL (h : yC cn G X Y) {k s : Nat} {C : String} {T : u_T} {N : Nat} {ty : Nat → FieldType} (hc : zCl k C T N ty) (hs : s < N) (hk : (zsl k s).1 = 2) (hty : ty s = .long) (hfin : (T s).2.2.2 = false) {n : Nat} (hl : Cond.fieldLink Y.1 n (T s).1 (T s).2.1 (T s).2.2.1 ∈ zgw) (hd : decode Y.2.1 pc = .ok (.putfield n, 3)) (kk : yAt cn G X Y Q (pc + 3) f) : yAt cn G X Y Q pc (g_pL k s f) := by
  intro ls st M H locs arr hf hM hS hL hst
  unfold g_pL at hf
  split at hf
  · rename_i v k' i r
    cases hz : (k' == k) with
    | false => rw [hz] at hf; exact hf.elim
    | true =>
      rw [hz] at hf
      have e : k' = k := by simpa using hz
      subst e
      have ho := List.forall_mem_cons.mp hst
      have ho2 := List.forall_mem_cons.mp ho.2
      refine yputf (M' := zsL M k' i s v) h hc hs hfin hl hd hM hS ho2.1 (by rw [hty]; rfl) (by rw [hty]; rfl) ?_ (fun s' e => ?_) (fun k2 i2 _ e => zcell_sL e) (fun H1 locs1 hM1 hS1 => kk _ _ _ _ _ _ hf hM1 hS1 hL ho2.2)
      · unfold zfv
        rw [hk]
        simp [zsL, zcv]
      · unfold zfv zsL
        simp only [e, and_false, if_false]
  · exact hf.elim
theorem y_pP (h : yC cn G X Y) (hle : ∀ k, cn k ≤ zcnt k) {k s tk : Nat} {C : String} {T : u_T} {N : Nat} {ty : Nat → FieldType} (hc : zCl k C T N ty) (hs : s < N) (hk : zsl k s = (4, tk, 0, 0, 0)) (hty : ∀ a : Nat, narrow (ty s) (.ref a) = .ref a ∧ fits (ty s) (.ref a) = true) (hfin : (T s).2.2.2 = false) {n : Nat} (hl : Cond.fieldLink Y.1 n (T s).1 (T s).2.1 (T s).2.2.1 ∈ zgw) (hd : decode Y.2.1 pc = .ok (.putfield n, 3)) (kk : yAt cn G X Y Q (pc + 3) f) : yAt cn G X Y Q pc (g_pP k s tk f) := by
  intro ls st M H locs arr hf hM hS hL hst
  unfold g_pP at hf
  split at hf
  · rename_i k2 j k' i r
    cases hz : (k' == k && k2 == tk) with
    | false => rw [hz] at hf; exact hf.elim
    | true =>
      rw [hz] at hf
      have e := Bool.and_eq_true_iff.mp hz
      have e1 : k' = k := by simpa using e.1
      have e2 : k2 = tk := by simpa using e.2
      subst e1; subst e2
      have ho := List.forall_mem_cons.mp hst
      have ho2 := List.forall_mem_cons.mp ho.2
      have hj : j < zcnt k2 := Nat.lt_of_lt_of_le (show j < cn k2 from ho.1) (hle _)
      refine yputf (M' := zsP M k' i s j) h hc hs hfin hl hd hM hS ho2.1 (hty _).1 (hty _).2 ?_ (fun s' e => ?_) (fun k2 i2 _ e => zcell_sP e) (fun H1 locs1 hM1 hS1 => kk _ _ _ _ _ _ hf hM1 hS1 hL ho2.2)
      · unfold zfv
        rw [hk]
        simp only [zsP, and_self, if_true, if_pos hj]
        rfl
      · unfold zfv zsP
        simp only [e, and_false, if_false]
  · exact hf.elim

theorem y_iaload0 (h : yC cn G X Y) (hd : decode Y.2.1 pc = .ok (.iaload, 1)) (kk : yAt cn G X Y Q (pc + 1) f) : yAt cn G X Y Q pc (g_al 0 f) := by
  intro ls st M H locs arr hf hM hS hL hst
  obtain ⟨hx, hb, hml, hown, hts, hr, hlk, hK, hI⟩ := h
  unfold g_al at hf
  split at hf
  · rename_i j k i r
    cases hz : (zsrt k == 1 && zaux k == 0) with
    | false => rw [hz] at hf; exact hf.elim
    | true =>
      rw [hz] at hf
      have hf : zin j (zlen k) ∧ f ls (.inl (M.1 k i j.toNatClampNeg) :: r) M := hf
      have e := Bool.and_eq_true_iff.mp hz
      have e1 : zsrt k = 1 := by simpa using e.1
      have e2 : zaux k = 0 := by simpa using e.2
      have ho := List.forall_mem_cons.mp hst
      have ho2 := List.forall_mem_cons.mp ho.2
      have hP := yat1 hM (i := i) (k := k) ho2.1 (zcell_ints e1)
      rw [e2] at hP
      exact va_iald hx hb hK.1 hP 0 0 rfl (hK.ty (by decide)) (zin_vp hf.1) hd (kk _ _ _ _ _ _ hf.2 hM hS hL (List.forall_mem_cons.mpr ⟨trivial, ho2.2⟩))
  · exact hf.elim
theorem y_baload2 (h : yC cn G X Y) (hd : decode Y.2.1 pc = .ok (.baload, 1)) (kk : yAt cn G X Y Q (pc + 1) f) : yAt cn G X Y Q pc (g_al 2 f) := by
  intro ls st M H locs arr hf hM hS hL hst
  obtain ⟨hx, hb, hml, hown, hts, hr, hlk, hK, hI⟩ := h
  unfold g_al at hf
  split at hf
  · rename_i j k i r
    cases hz : (zsrt k == 1 && zaux k == 2) with
    | false => rw [hz] at hf; exact hf.elim
    | true =>
      rw [hz] at hf
      have hf : zin j (zlen k) ∧ f ls (.inl (M.1 k i j.toNatClampNeg) :: r) M := hf
      have e := Bool.and_eq_true_iff.mp hz
      have e1 : zsrt k = 1 := by simpa using e.1
      have e2 : zaux k = 2 := by simpa using e.2
      have ho := List.forall_mem_cons.mp hst
      have ho2 := List.forall_mem_cons.mp ho.2
      have hP := yat1 hM (i := i) (k := k) ho2.1 (zcell_ints e1)
      rw [e2] at hP
      exact va_zald hx hb hK.1 hP 0 2 rfl (hK.ty (by decide)) (zin_vp hf.1) hd (kk _ _ _ _ _ _ hf.2 hM hS hL (List.forall_mem_cons.mpr ⟨trivial, ho2.2⟩))
  · exact hf.elim
theorem y_aaload (h : yC cn G X Y) {k t tk per : Nat} {C : String} (ht : t < 8) (hC : zty t = .object C) (hk : zsrt k = 3 ∧ zaux k = t ∧ zsl k 0 = (3, tk, per, 1, 0)) (hv : ∀ i, i < cn k → ∀ j, j < zlen k → per * i + j < cn tk) (hd : decode Y.2.1 pc = .ok (.aaload, 1)) (kk : yAt cn G X Y Q (pc + 1) f) : yAt cn G X Y Q pc (g_alr k tk per f) := by
  intro ls st M H locs arr hf hM hS hL hst
  obtain ⟨hx, hb, hml, hown, hts, hr, hlk, hK, hI⟩ := h
  obtain ⟨e1, e2, e4⟩ := hk
  unfold g_alr at hf
  split at hf
  · rename_i j k' i r
    cases hz : (k' == k) with
    | false => rw [hz] at hf; exact hf.elim
    | true =>
      rw [hz] at hf
      have hf : zin j (zlen k) ∧ f ls (.inr (.inr (tk, per * i + j.toNatClampNeg)) :: r) M := hf
      have e3 : k' = k := by simpa using hz
      subst e3
      have ho := List.forall_mem_cons.mp hst
      have ho2 := List.forall_mem_cons.mp ho.2
      have hP := yat1 hM (i := i) (k := k') ho2.1 (zcell_refs e1)
      rw [e2, e4] at hP
      simp only [Nat.one_mul, Nat.add_zero] at hP
      have hj : j.toNatClampNeg < zlen k' := by
        have h1 := hf.1.1
        have h2 := hf.1.2
        unfold Int32.toNatClampNeg
        omega
      have ht2 := hK.ty ht
      rw [hC] at ht2
      exact va_aldq hx hb hK.1 hP 0 t rfl ht2 (zin_vp hf.1) hd (kk _ _ _ _ _ _ hf.2 hM hS hL (List.forall_mem_cons.mpr ⟨hv i ho2.1 _ hj, ho2.2⟩))
  · exact hf.elim
theorem yarr_put {M M' : zM} {H H1 : Heap} {k i : Nat} (hI : yInj cn G) (hM : yRep cn G M H) (hi : i < cn k) (hoc : ∀ k' i', i' < cn k' → ¬ (k' = k ∧ i' = i) → zcell G M' k' i' = zcell G M k' i') (h1 : va_at G.2.2.1 classes (G.2.2.2.2 k i, zcell G M' k i) H1) (e3 : ∀ q, q ≠ G.2.2.2.2 k i → H1[q]? = H[q]?) : yRep cn G M' H1 := by
  intro k' i' hi'
  by_cases e : k' = k ∧ i' = i
  · obtain ⟨rfl, rfl⟩ := e
    exact h1
  · have hne : G.2.2.2.2 k' i' ≠ G.2.2.2.2 k i := fun q => e (hI.1 k' i' k i hi' hi q)
    rw [hoc k' i' hi' e]
    exact (hM k' i' hi').kept (e3 _ hne)

theorem y_iastore0 (h : yC cn G X Y) (hd : decode Y.2.1 pc = .ok (.iastore, 1)) (kk : yAt cn G X Y Q (pc + 1) f) : yAt cn G X Y Q pc (g_as 0 (fun x => x) f) := by
  intro ls st M H locs arr hf hM hS hL hst
  obtain ⟨hx, hb, hml, hown, hts, hr, hlk, hK, hI⟩ := h
  unfold g_as at hf
  split at hf
  · rename_i x j k i r
    cases hz : (zsrt k == 1 && zaux k == 0) with
    | false => rw [hz] at hf; exact hf.elim
    | true =>
      rw [hz] at hf
      have hf : zin j (zlen k) ∧ f ls r (zsI M k i j.toNatClampNeg (x)) := hf
      have e := Bool.and_eq_true_iff.mp hz
      have e1 : zsrt k = 1 := by simpa using e.1
      have e2 : zaux k = 0 := by simpa using e.2
      have ho := List.forall_mem_cons.mp hst
      have ho2 := List.forall_mem_cons.mp ho.2
      have ho3 := List.forall_mem_cons.mp ho2.2
      have hi : i < cn k := ho3.1
      have hP : H[G.2.2.2.2 k i]? = some (vp_cell (G.2.2.2.1 0) (zlen k, .inl (M.1 k i))) := by
        have h9 := hM k i hi
        rw [zcell_ints e1, e2] at h9
        exact h9
      have hin := zin_vp hf.1
      refine W.iast hx hb hP ((hK.1.2 0 _ (hK.ty (by decide))).1 (zlen k) (fun j => .int (M.1 k i j))) (fun q => by cases q) (by show ¬ (j < 0 ∨ (arrV _ _ _).slots.size ≤ _); rw [arrV_size]; exact hin) rfl rfl hd fun H1 e z oq => ?_
      refine kk _ _ _ _ _ _ hf.2 (yarr_put hI hM hi (fun k' i' _ q => zcell_sI q) ?_ oq) (hS.put z oq (hI.2 k i hi)) hL ho3.2
      rw [zcell_ints e1, e2]
      show H1[_]? = some (vp_cell _ _)
      rw [e, vp_cell_i, vp_cell_i, arrV_store]
      congr 2
      funext q
      by_cases hq : q = j.toNatClampNeg
      · subst hq
        simp [updV, zsI, vp_nar, narrow]
      · simp [updV, zsI, hq]
  · exact hf.elim
theorem y_bastore2 (h : yC cn G X Y) (hd : decode Y.2.1 pc = .ok (.bastore, 1)) (kk : yAt cn G X Y Q (pc + 1) f) : yAt cn G X Y Q pc (g_as 2 (fun x => vp_nar .boolean x) f) := by
  intro ls st M H locs arr hf hM hS hL hst
  obtain ⟨hx, hb, hml, hown, hts, hr, hlk, hK, hI⟩ := h
  unfold g_as at hf
  split at hf
  · rename_i x j k i r
    cases hz : (zsrt k == 1 && zaux k == 2) with
    | false => rw [hz] at hf; exact hf.elim
    | true =>
      rw [hz] at hf
      have hf : zin j (zlen k) ∧ f ls r (zsI M k i j.toNatClampNeg (vp_nar .boolean x)) := hf
      have e := Bool.and_eq_true_iff.mp hz
      have e1 : zsrt k = 1 := by simpa using e.1
      have e2 : zaux k = 2 := by simpa using e.2
      have ho := List.forall_mem_cons.mp hst
      have ho2 := List.forall_mem_cons.mp ho.2
      have ho3 := List.forall_mem_cons.mp ho2.2
      have hi : i < cn k := ho3.1
      have hP : H[G.2.2.2.2 k i]? = some (vp_cell (G.2.2.2.1 2) (zlen k, .inl (M.1 k i))) := by
        have h9 := hM k i hi
        rw [zcell_ints e1, e2] at h9
        exact h9
      have hin := zin_vp hf.1
      refine W.zast hx hb hP ((hK.1.2 2 _ (hK.ty (by decide))).1 (zlen k) (fun j => .int (M.1 k i j))) (fun q => by cases q) (by show ¬ (j < 0 ∨ (arrV _ _ _).slots.size ≤ _); rw [arrV_size]; exact hin) rfl rfl hd fun H1 e z oq => ?_
      refine kk _ _ _ _ _ _ hf.2 (yarr_put hI hM hi (fun k' i' _ q => zcell_sI q) ?_ oq) (hS.put z oq (hI.2 k i hi)) hL ho3.2
      rw [zcell_ints e1, e2]
      show H1[_]? = some (vp_cell _ _)
      rw [e, vp_cell_i, vp_cell_i, arrV_store]
      congr 2
      funext q
      by_cases hq : q = j.toNatClampNeg
      · subst hq
        simp [updV, zsI, vp_nar, narrow]
      · simp [updV, zsI, hq]
  · exact hf.elim
end YZS
def yPre (cn : Nat → Nat) (G : zG) (as : List zV) (M : zM) : Array Value → State → Prop := fun v U => v = (as.map (zcv G)).toArray ∧ yRep cn G M U.heap ∧ zKn G U
def yPost (cn : Nat → Nat) (G : zG) (K : zQ) : Array Value → State → Outcome → State → Prop := fun _ st oc t => (∃ (r : List zV) (M : zM), oc = .returned ((r.map (zcv G)).head?) ∧ r.length ≤ 1 ∧ K r M ∧ yRep cn G M t.heap ∧ ∀ v ∈ r, yok cn v) ∧ va_F (zA G) st t
def yMet (cn : Nat → Nat) (G : zG) (y : MethodName) (Y : zY) (m : zQ → List zV → zM → Prop) : Prop := ∀ (K : zQ) (as : List zV) (M : zM), m K as M → (∀ v ∈ as, yok cn v) → yInj cn G → Met G.1 y (zws y Y) Y.2.2.2.2 (yPre cn G as M) (yPost cn G K) 0 0 (zA G)
abbrev yMQ (cn : Nat → Nat) (G : zG) (X : zX) (K : zQ) : State → Prop := MQ X.2.2.2.2.2.1 (yPost cn G K) X.2.2.2.2.1 X.2.2.1 0 0 (zA G)
theorem yPre_blind {G : zG} {as : List zV} {M : zM} : FrameBlind (yPre cn G as M) := fun a U g mk q => ⟨q.1, q.2.1, zKn.same (s := U) rfl q.2.2⟩
section YZE
variable {G : zG} {X : zX} {Y : zY} {K : zQ} {pc : Nat}
theorem y_ireturn (h : yC cn G X Y) (hty : Y.2.2.2.1 = some .int) (hd : decode Y.2.1 pc = .ok (.ireturn, 1)) : yAt cn G X Y (yMQ cn G X K) pc (g_ri K) := by
  intro ls st M H locs arr hf hM hS hL hst
  obtain ⟨hx, hb, hml, hown, hts, hr, hlk, hK, hI⟩ := h
  unfold g_ri at hf
  split at hf
  · rename_i x
    exact W.iret hx hb (by rw [hr, hty]) (fun t ht hW => ⟨⟨[.inl x], M, rfl, Nat.le_refl 1, hf, by rw [ht]; exact hM, fun v hv => by rw [List.mem_singleton.mp hv]; trivial⟩, hS.F ht⟩) hS.2.2 hd hlk
  · exact hf.elim
theorem y_return (h : yC cn G X Y) (hty : Y.2.2.2.1 = none) (hd : decode Y.2.1 pc = .ok (.return_, 1)) : yAt cn G X Y (yMQ cn G X K) pc (g_rv K) := by
  intro ls st M H locs arr hf hM hS hL hst
  obtain ⟨hx, hb, hml, hown, hts, hr, hlk, hK, hI⟩ := h
  unfold g_rv at hf
  split at hf
  · exact W.vret hx hb (by rw [hr, hty]) (fun t ht hW => ⟨⟨[], M, rfl, Nat.zero_le 1, hf, by rw [ht]; exact hM, fun v hv => by cases hv⟩, hS.F ht⟩) hS.2.2 hd hlk
  · exact hf.elim
end YZE
section YZS2
variable {G : zG} {X : zX} {Y : zY} {Q : State → Prop} {pc : Nat} {f g : zF}
theorem yrun {H : Heap} {locs : List Loc} {arr : Array Slot} {st0 rest : List Value} {K : zQ} {a : Array Value} {rs : List zV} (hrs : rest = rs.map (zcv G)) (hr : va_Run X.1 G.1 X.2.1 Y.2.2.2.2 X.2.2.1 X.2.2.2.1 X.2.2.2.2.1 X.2.2.2.2.2.1 X.2.2.2.2.2.2.1 X.2.2.2.2.2.2.2 H locs 0 0 0 0 (zFr X pc arr st0) rest (yPost cn G K a) (zA G)) (hS : va_S (zA G) X.2.2.1.heap H locs)
    (kk : ∀ (r : List zV) (M : zM) (H1 : Heap) (locs1 : List Loc), K r M → yRep cn G M H1 → (∀ v ∈ r, yok cn v) → va_S (zA G) X.2.2.1.heap H1 locs1 → zW G X Y H1 locs1 Q (zFr X (pc + 3) arr ((r ++ rs).map (zcv G)))) : zW G X Y H locs Q (zFr X pc arr st0) := by
  intro T hT X9
  obtain ⟨v, st₀, t, T', L, h0, X', hL, e1, e2, ⟨⟨r, M, hv, hlen, hK, hM, hok⟩, hz, hk⟩, st⟩ := hr T hT X9
  rw [h0] at hz hk
  have hv : v = (r.map (zcv G)).head? := by cases hv; rfl
  obtain ⟨t2, a1, b1⟩ := kk r M T'.heap (locs ++ L) hK (by rw [e1]; exact hM) hok
    ⟨Nat.le_trans hS.1 (by rw [e1]; exact hz), fun q h1 h2 => by rw [e1, hk q (Nat.lt_of_lt_of_le h1 hS.1) h2]; exact hS.2.1 q h1 h2, fun q hq => by
      rcases List.mem_append.mp hq with h | h
      · exact hS.2.2 q h
      · exact hL q h⟩ T' rfl X'
  refine ⟨t2, st t2 ?_, b1⟩
  have e : v.toList ++ rest = (r ++ rs).map (zcv G) := by
    rw [hv, hrs, List.map_append]
    congr 1
    match r, hlen with
    | [], _ => rfl
    | [x], _ => rfl
    | x :: y :: z, h => simp at h
  rw [e]
  exact a1
theorem ytake {st : List zV} {n : Nat} {as : List zV} (h : (st.take n).reverse = as) (hst : ∀ v ∈ st, yok cn v) : (∀ v ∈ as, yok cn v) ∧ ∀ v ∈ st.drop n, yok cn v := by
  refine ⟨fun v hv => hst v ?_, fun v hv => hst v (List.mem_of_mem_drop hv)⟩
  rw [← h] at hv
  exact List.mem_of_mem_take (List.mem_reverse.mp hv)
theorem y_callV (h : yC cn G X Y) {m : zQ → List zV → zM → Prop} {y : MethodName} {Y' : zY} {k n idx : Nat} {C : String} {T : u_T} {N : Nat} {ty : Nat → FieldType} (hm : yMet cn G y Y' m) (hc : zCl k C T N ty) (hyC : y.cls = C) (hmd : zMd y n) (hrm : zRm Y' Y)
    (hw : Cond.methodLink Y.1 idx y ∈ zgw ∧ Cond.instanceMethod y ∈ zgw ∧ Cond.selects C y y ∈ zgw ∧ Cond.initialized C ∈ zgw ∧ Cond.code y Y'.2.1 Y'.2.2.1 Y'.2.2.2.1 ∈ zgw) (hd : decode Y.2.1 pc = .ok (.invokevirtual idx, 3)) (kk : yAt cn G X Y Q (pc + 3) f) : yAt cn G X Y Q pc (g_cv k m n f) := by
  intro ls st M H locs arr hf hM hS hL hst
  obtain ⟨hx, hb, hml, hown, hts, hr, hlk, hK, hI⟩ := h
  unfold g_cv at hf
  split at hf
  · rename_i k' i as hrev
    cases hz : (k' == k && (Nat.ble (((st.drop (n + 1)).map zcat).sum) 8 && as.length == n)) with
    | false => rw [hz] at hf; exact hf.elim
    | true =>
      rw [hz] at hf
      have e := Bool.and_eq_true_iff.mp hz
      have e2 := Bool.and_eq_true_iff.mp e.2
      have e1 : k' = k := by simpa using e.1
      have en : as.length = n := by simpa using e2.2
      subst e1
      obtain ⟨hok, hrest⟩ := ytake hrev hst
      have hMet := hm _ _ _ hf hok hI
      have hs := zstk (G := G) hrev
      have hi : i < cn k' := (List.forall_mem_cons.mp hok).1
      obtain ⟨c1, c2, c3, c4, c5, c6, c7⟩ := hc
      have hP := yat1 hM hi (zcell_obj c1)
      rw [c2] at hP
      have hG : GoodIn zgw (wsV Y.1 idx C y (zws y Y')) := zgw_in (fun w h => by
        rcases List.mem_append.mp h with h | h
        · simp only [List.mem_cons, List.not_mem_nil, or_false] at h
          rcases h with rfl | rfl | rfl | rfl
          · exact hw.1
          · exact hw.2.1
          · exact hw.2.2.1
          · exact hw.2.2.2.1
        · rcases List.mem_cons.mp h with rfl | h
          · exact hw.2.2.2.2
          · exact h)
      have run := va_runV (e := X.2.1) (below := X.2.2.2.2.2.1) (meth := X.2.2.2.2.2.2.1) (locs := locs) (As := as.map (zcv G)) (rest := (st.drop (n + 1)).map (zcv G)) (b := G.2.2.2.2 k' i) (g := zFr X pc arr (st.map (zcv G))) (cells := 0) (slots := 0) ⟨hx, hb, hml, hown, hts⟩ hMet
        (cwV n hts hG rfl hrm.1 hrm.2.1 ⟨hyC, hmd⟩ hrm.2.2) ⟨yPre_blind, va_recv hK.1 hP (q0 := 0) c4 rfl, fun U hU hW => ⟨rfl, by rw [hU]; exact hM, hK.warm hW⟩⟩ rfl (by rw [List.length_map]; exact en) hL.1.1 (by show st.map (zcv G) = _; rw [hs]; simp [zcv]) (lv_room (zsum_le e2.1)) hd ⟨Nat.zero_le _, Nat.zero_le _⟩
      exact yrun rfl run hS (fun r M1 H1 locs1 hK1 hM1 hr1 hS1 => kk _ _ _ _ _ _ hK1 hM1 hS1 hL (fun v hv => (List.mem_append.mp hv).elim (hr1 v) (hrest v)))
  · exact hf.elim
theorem y_callS (h : yC cn G X Y) {m : zQ → List zV → zM → Prop} {y : MethodName} {Y' : zY} {n idx : Nat} (hm : yMet cn G y Y' m) (hmd : zMd y n) (hrm : zRm Y' Y)
    (hw : Cond.methodLink Y.1 idx y ∈ zgw ∧ Cond.static y ∈ zgw ∧ Cond.initialized y.cls ∈ zgw ∧ Cond.code y Y'.2.1 Y'.2.2.1 Y'.2.2.2.1 ∈ zgw) (hd : decode Y.2.1 pc = .ok (.invokestatic idx, 3)) (kk : yAt cn G X Y Q (pc + 3) f) : yAt cn G X Y Q pc (g_call m n f) := by
  intro ls st M H locs arr hf hM hS hL hst
  obtain ⟨hx, hb, hml, hown, hts, hr, hlk, hK, hI⟩ := h
  unfold g_call at hf
  cases hz : (Nat.ble n st.length && Nat.ble (((st.drop n).map zcat).sum) 8) with
  | false => rw [hz] at hf; exact hf.elim
  | true =>
    rw [hz] at hf
    have e := Bool.and_eq_true_iff.mp hz
    obtain ⟨hok, hrest⟩ := ytake (n := n) rfl hst
    have hMet := hm _ _ _ hf hok hI
    have hs := zstk (G := G) (st := st) (n := n) rfl
    have hG : GoodIn zgw (zws y Y') := zgw_in (fun w h => by
      rcases List.mem_cons.mp h with rfl | h
      · exact hw.2.2.2
      · exact h)
    have run := va_runS (e := X.2.1) (below := X.2.2.2.2.2.1) (meth := X.2.2.2.2.2.2.1) (locs := locs) (As := (st.take n).reverse.map (zcv G)) (rest := (st.drop n).map (zcv G)) (g := zFr X pc arr (st.map (zcv G))) (cells := 0) (slots := 0) ⟨hx, hb, hml, hown, hts⟩ hMet
      ⟨callB_of n hts hG rfl hrm.1 hrm.2.1 (hts _ hw.2.2.1) (hts _ hw.1) hmd hrm.2.2, hts _ hw.2.1⟩ ⟨yPre_blind, fun U hU hW => ⟨rfl, by rw [hU]; exact hM, hK.warm hW⟩⟩ rfl (by rw [List.length_map, List.length_reverse, List.length_take]; exact Nat.min_eq_left (Nat.le_of_ble_eq_true e.1)) hL.1.1 hs (lv_room (zsum_le e.2)) hd ⟨Nat.zero_le _, Nat.zero_le _⟩
    exact yrun rfl run hS (fun r M1 H1 locs1 hK1 hM1 hr1 hS1 => kk _ _ _ _ _ _ hK1 hM1 hS1 hL (fun v hv => (List.mem_append.mp hv).elim (hr1 v) (hrest v)))
end YZS2
theorem yMet_of {G : zG} {y : MethodName} {Y : zY} {body : zQ → zF} (hy : plainName y.cls = true) (hcl : y.cls = Y.1) (hb : ∀ (X : zX) (K : zQ), yC cn G X Y → yAt cn G X Y (yMQ cn G X K) 0 (body K)) : yMet cn G y Y (fun K as M => g_ent Y.2.2.1 (body K) as M) := by
  intro K as M hf hok hI
  have hf : g_ent Y.2.2.1 (body K) as M := hf
  unfold g_ent at hf
  cases hz : Nat.ble (zwd as) Y.2.2.1 with
  | false => rw [hz] at hf; exact hf.elim
  | true =>
    rw [hz] at hf
    have hw := Nat.le_of_ble_eq_true hz
    refine Met.ofW (cc := Y.2.1) (maxL := Y.2.2.1) (ret := Y.2.2.2.1) hy rfl ?_
    intro p e s m args below meth c s₁ B hml hv
    obtain ⟨rfl, hM, hK⟩ := hv
    have hts : ∀ w ∈ zgw, w.before ((as.map (zcv G)).toArray) s = true := fun w h => atoms_spec (ws := zws y Y) B.pre w (List.mem_cons_of_mem _ h)
    have hown : s.vm.findClass Y.1 = some m.cls := by rw [← hcl]; exact findClass_of_methodNamed B.named
    have hC : yC cn G (p, e, s, m, (as.map (zcv G)).toArray, below, meth, c) Y := ⟨B.exec, B.bytes, hml, hown, hts, B.returns, B.notSynchronized, hK, hI⟩
    have hl := lv_entry (as.map (zcv G)) (n := Y.2.2.1) (by rw [zwd_sl]; exact hw)
    rw [lg_entry_eq]
    refine hb (p, e, s, m, (as.map (zcv G)).toArray, below, meth, c) K hC (zent Y.2.2.1 as) [] M s.heap [] _ hf hM va_S.rf ⟨?_, zent_len as _ hw, fun i v hg => hok v (zent_mem as _ i v hg)⟩ (fun v h => by cases h)
    rw [zent_lst]
    exact hl

end YP
