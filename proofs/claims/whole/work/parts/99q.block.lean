-- CONSTRUCTORS: the cells that are made lie one behind another, from a on
def bw : Nat → List va_E → va_W
  | _, [] => []
  | a, e :: r => (a, e) :: bw (a + 1) r
theorem bw_get : ∀ (es : List va_E) (a k : Nat), (bw a es)[k]? = (es[k]?).map (fun e => (a + k, e)) := by
  intro es
  induction es with
  | nil => intro a k; simp [bw]
  | cons e r ih =>
    intro a k
    cases k with
    | zero => simp [bw]
    | succ k =>
      have h := ih (a + 1) k
      rw [show a + 1 + k = a + (k + 1) by omega] at h
      simpa [bw] using h
theorem bw_len : ∀ (es : List va_E) (a : Nat), (bw a es).length = es.length := by
  intro es
  induction es with
  | nil => intro a; rfl
  | cons e r ih => intro a; simp [bw, ih]
theorem bw_app : ∀ (es fs : List va_E) (a : Nat), bw a (es ++ fs) = bw a es ++ bw (a + es.length) fs := by
  intro es
  induction es with
  | nil => intro fs a; rfl
  | cons e r ih =>
    intro fs a
    show (a, e) :: bw (a + 1) (r ++ fs) = (a, e) :: (bw (a + 1) r ++ bw (a + (r.length + 1)) fs)
    rw [ih, show a + 1 + r.length = a + (r.length + 1) by omega]
theorem bw_set : ∀ (es : List va_E) (a k : Nat) (e : va_E), (bw a es).set k (a + k, e) = bw a (es.set k e) := by
  intro es
  induction es with
  | nil => intro a k e; rfl
  | cons x r ih =>
    intro a k e
    cases k with
    | zero => rfl
    | succ k =>
      have h := ih (a + 1) k e
      rw [show a + 1 + k = a + (k + 1) by omega] at h
      show (a, x) :: (bw (a + 1) r).set k (a + (k + 1), e) = (a, x) :: bw (a + 1) (r.set k e)
      rw [h]
theorem bw_at {es : List va_E} {a k : Nat} {q : Nat × va_E} (h : (bw a es)[k]? = some q) : q.1 = a + k ∧ es[k]? = some q.2 := by
  rw [bw_get] at h
  cases he : es[k]? with
  | none => rw [he] at h; cases h
  | some e => rw [he] at h; cases h; exact ⟨rfl, rfl⟩
theorem bw_some {es : List va_E} {a k : Nat} {e : va_E} (h : es[k]? = some e) : (bw a es)[k]? = some (a + k, e) := by rw [bw_get, h]; rfl
abbrev bA (a : Nat) : Nat → Prop := fun q => a ≤ q
theorem bw_D (a : Nat) (es : List va_E) : va_D (bA a) (bw a es) := ⟨fun i j p q hp hq e => by
  have h1 := (bw_at hp).1
  have h2 := (bw_at hq).1
  omega, fun k q hq => by
  have h1 := (bw_at hq).1
  show a ≤ q.1
  omega⟩
def znestI : List Cond := [.methodLinkNest "KnockBank" 15 yX5_init "KnockBank", .methodLinkNest "KnockBank" 22 yX8_init "KnockBank", .methodLinkNest "KnockBank" 35 yX0_init "KnockBank", .methodLinkNest "KnockBank" 42 yX3_init "KnockBank", .methodLinkNest "KnockBank" 49 yX6_init "KnockBank",
  .methodLinkNest "KnockBank$Text" 70 yX1_init "KnockBank", .methodLinkNest "KnockBank$Text" 71 yX10_init "KnockBank", .methodLinkNest "KnockBank$Text" 72 yX4_init "KnockBank", .methodLinkNest "KnockBank$Text" 73 yX2_init "KnockBank"]
abbrev zovr : List String := ["KnockBank$Hand", "KnockBank$Wood", "KnockBank$Rap", "KnockBank$Law"]
abbrev wtx : String := "hand wood rap like seed law shake near fade or and not cold aged hard beat place raps day"
def wby : List Int32 := [104, 97, 110, 100, 32, 119, 111, 111, 100, 32, 114, 97, 112, 32, 108, 105, 107, 101, 32, 115, 101, 101, 100, 32, 108, 97, 119, 32, 115, 104, 97, 107, 101, 32, 110, 101, 97, 114, 32, 102, 97, 100, 101, 32, 111, 114, 32, 97, 110, 100, 32, 110, 111, 116, 32, 99, 111, 108, 100, 32, 97, 103, 101, 100, 32, 104, 97, 114, 100, 32, 98, 101, 97, 116, 32, 112, 108, 97, 99, 101, 32, 114, 97, 112, 115, 32, 100, 97, 121]
/-- the words' text as it lies in the heap, and what the JDK's own methods take of it -/
def zSt (K V : Nat) (A : Nat → Prop) (U : State) (H : Heap) : Prop := va_O "java/lang/String" K A U H ∧ va_OF "java/lang/String" "coder" "B" (.int 0) K A U H ∧ va_OF "java/lang/String" "value" "[B" (.ref V) K A U H ∧ va_T .byte V 89 (fun j => .int (wby.getD j 0)) A U H ∧ va_Z "java/lang/String" "COMPACT_STRINGS" "Z" (.int 1) A U H ∧ va_Zq "jdk/internal/util/Preconditions" "SIOOBE_FORMATTER" "Ljava/util/function/BiFunction;" A U H
theorem zSt.moved {K V : Nat} {A : Nat → Prop} {u U : State} {H : Heap} (hvm : u.vm.Alike U.vm) (h : zSt K V A u H) : zSt K V A U H := ⟨h.1.moved hvm, h.2.1.moved hvm, h.2.2.1.moved hvm, h.2.2.2.1.moved hvm, h.2.2.2.2.1.moved hvm, h.2.2.2.2.2.moved hvm⟩
theorem zSt.kept {K V : Nat} {A : Nat → Prop} {U : State} {H H1 : Heap} (h : zSt K V A U H) (hq : ∀ a : Nat, a < H.size → ¬ A a → H1[a]? = H[a]?) : zSt K V A U H1 := ⟨h.1.kept hq, h.2.1.kept hq, h.2.2.1.kept hq, h.2.2.2.1.kept hq, h.2.2.2.2.1.kept hq, h.2.2.2.2.2.kept hq⟩
theorem zSt.narrow {K V : Nat} {A B : Nat → Prop} {U : State} {H : Heap} (h : zSt K V A U H) (hAB : ∀ q, B q → A q) : zSt K V B U H := ⟨h.1.narrow hAB, h.2.1.narrow hAB, h.2.2.1.narrow hAB, h.2.2.2.1.narrow hAB, h.2.2.2.2.1.narrow hAB, h.2.2.2.2.2.narrow hAB⟩
def zIn (a : Nat) (U : State) : Prop := (∀ w ∈ znestI, va_Nw w U) ∧ (∀ C ∈ zovr, va_AO C U) ∧ ∃ K V, vk_R RX7 24 wtx K U ∧ zSt K V (bA a) U U.heap
theorem zIn.at {a a' : Nat} {s U : State} {H : Heap} {locs : List Loc} (hW : s.WarmedH U.vm) (hU : U.heap = H) (hS : va_S (bA a) s.heap H locs) (ha : a ≤ a') (h : zIn a s) : zIn a' U := by
  refine ⟨fun w hw => ?_, fun C hC => (h.2.1 C hC).moved hW.alike, ?_⟩
  · have h2 := h.1 w hw
    simp only [znestI, List.mem_cons, List.not_mem_nil, or_false] at hw
    rcases hw with rfl | rfl | rfl | rfl | rfl | rfl | rfl | rfl | rfl <;> exact va_Nw.warmM hW h2
  · obtain ⟨K, V, h1, h2⟩ := h.2.2
    rw [hU]
    exact ⟨K, V, h1.warm hW, ((h2.kept hS.2.1).moved hW.alike).narrow (fun q hq => Nat.le_trans ha hq)⟩
theorem zIn.same {a : Nat} {s U : State} (hv : s.vm = U.vm) (hh : s.heap = U.heap) (h : zIn a s) : zIn a U := by
  have al : s.vm.Alike U.vm := by rw [hv]; exact Vm.Alike.refl _
  refine ⟨fun w hw => ?_, fun C hC => (h.2.1 C hC).moved al, ?_⟩
  · have h2 := h.1 w hw
    simp only [znestI, List.mem_cons, List.not_mem_nil, or_false] at hw
    rcases hw with rfl | rfl | rfl | rfl | rfl | rfl | rfl | rfl | rfl <;> exact va_Nw.same rfl hv h2
  · obtain ⟨K, V, h1, h2⟩ := h.2.2
    rw [hh] at h2
    exact ⟨K, V, h1.same hv.symm, h2.moved al⟩
/-- a constructor's run: of the object at a, the last cell there is -/
def iC (G : zG) (X : zX) (Y : zY) (a : Nat) : Prop :=
  X.1.tables.exec = Jvm.exec ∧ X.2.2.2.2.2.2.2.code = Y.2.1 ∧ X.2.2.2.2.2.2.2.maxLocals = Y.2.2.1 ∧ X.2.2.1.vm.findClass Y.1 = some X.2.2.2.1.cls ∧ (∀ w ∈ zgw, w.before X.2.2.2.2.1 X.2.2.1 = true) ∧ X.2.2.2.2.2.2.1.sig.returnType = none ∧ X.2.2.2.2.2.2.1.locks = false ∧ zKn G X.2.2.1 ∧ zIn a X.2.2.1 ∧ X.2.2.2.2.2.2.1.name = "<init>" ∧ X.2.2.1.heap.size = a + 1
def bS (G : zG) (X : zX) (a : Nat) (es : List va_E) (H : Heap) (locs : List Loc) : Prop := va_P G.2.2.1 classes (bw a es) H ∧ va_S (bA a) X.2.2.1.heap H locs
section BL
variable {G : zG} {X : zX} {Y : zY} {Q : State → Prop} {pc kc ks a : Nat} {H : Heap} {locs : List Loc} {arr : Array Slot} {rest : List Value} {es : List va_E}
theorem l_size {g : JFrame} (kk : H.size ≤ X.2.2.1.heap.size + kc → zWL G X Y kc ks H locs Q g) : zWL G X Y kc ks H locs Q g := fun T hT X9 => kk (by rw [← hT]; exact X9.heapSize) T hT X9
theorem b_pin {D : va_G} {q : Nat} {e : va_E} (hP : va_P D classes (bw a es ++ [(q, e)]) H) (hD : va_D (bA a) (bw a es ++ [(q, e)])) (hz : H.size ≤ a + es.length + 1) : q = a + es.length := by
  have hq : (bw a es ++ [(q, e)])[es.length]? = some (q, e) := by
    rw [List.getElem?_append_right (by rw [bw_len]; omega), bw_len, Nat.sub_self]; rfl
  have h1 : q < H.size := (hP _ _ hq).lt
  have h2 : a ≤ q := hD.2 _ _ hq
  apply Classical.byContradiction
  intro hne
  have h3 : q - a < es.length := by omega
  have h4 : (bw a es ++ [(q, e)])[q - a]? = some (a + (q - a), es[q - a]) := by
    rw [List.getElem?_append_left (by rw [bw_len]; exact h3)]
    exact bw_some (List.getElem?_eq_getElem h3)
  have := hD.1 _ _ _ _ h4 hq (by show a + (q - a) = q; omega)
  omega
theorem bS.up {e : va_E} {H1 : Heap} (hP : va_P G.2.2.1 classes (bw a es ++ [(a + es.length, e)]) H1) : va_P G.2.2.1 classes (bw a (es ++ [e])) H1 := by
  rw [bw_app]; exact hP
/-- newarray -/
theorem i_newa (h : iC G X Y a) {t : Nat} {at9 : ArrayType} (ht : t < 8) (hp : zty t = newarray.typeOf at9) (hpr : ∀ U cA, va_RA U cA (newarray.typeOf at9) → U.vm.findClass ("[" ++ (newarray.typeOf at9).toString) = some cA) (harr : Cond.arrayClass (newarray.typeOf at9) ∈ zgw) {n : Int32} {N : Nat} {c0 : (Nat → Int32) ⊕ (Nat → Int64) ⊕ (Nat → UInt32) ⊕ (Nat → UInt64) ⊕ (Nat → Option Nat)} (ha : ∀ cA : ClassId, vp_cell cA (N, c0) = arrV cA N (fun _ => defaultValue (newarray.typeOf at9))) (hn : ¬ n < 0) (hN : n.toNatClampNeg = N) (hby : N * componentBytes (newarray.typeOf at9) ≤ 536870912) (hc : kc + 1 ≤ Y.2.2.2.2.cells) (hs : ks + N ≤ Y.2.2.2.2.slots) (hd : decode Y.2.1 pc = .ok (.newarray at9, 2)) (hkc : kc + 1 = es.length) (hS : bS G X a es H locs)
    (kk : ∀ H1, bS G X a (es ++ [.inl (G.2.2.2.1 t, N, c0)]) H1 locs → zWL G X Y (kc + 1) (ks + N) H1 locs Q (zFr X (pc + 2) arr (.ref (a + es.length) :: rest))) : zWL G X Y kc ks H locs Q (zFr X pc arr (.int n :: rest)) := by
  obtain ⟨hx, hb, hml, hown, hts, hr, hlk, hK, hI, hin, hsz⟩ := h
  refine va_newa hx hb (hts _ harr) rfl hK.1 hS.1 (bw_D a es) hS.2 (fun q hq => by show a ≤ q; omega) ha hn hN hby hc hs hd (fun q cA H1 hK1 hP1 hD1 hS1 => ?_)
  refine l_size (fun hz => ?_)
  have hq := b_pin hP1 hD1 (by omega)
  subst hq
  have e1 := hpr _ _ (hK1.2 8 (cA, newarray.typeOf at9) rfl).2
  have e2 := (hK.1.2 t _ (hK.ty ht)).2
  have e2 : X.2.2.1.vm.findClass ("[" ++ (newarray.typeOf at9).toString) = some (G.2.2.2.1 t) := hpr _ _ (by rw [← hp]; exact e2)
  cases Option.some.inj (e1.symm.trans e2)
  exact kk H1 ⟨bS.up hP1, hS1⟩
/-- anewarray -/
theorem i_newq (h : iC G X Y a) {t : Nat} {C : String} {ik : Nat} (ht : t < 8) (hC : zty t = .object C) (hov : C ∈ zovr) (hl : Cond.classLink Y.1 ik C ∈ zgw) {n : Int32} {N : Nat} (hn : ¬ n < 0) (hN : n.toNatClampNeg = N) (hby : N * 4 ≤ 536870912) (hc : kc + 1 ≤ Y.2.2.2.2.cells) (hs : ks + N ≤ Y.2.2.2.2.slots) (hd : decode Y.2.1 pc = .ok (.anewarray ik, 3)) (hkc : kc + 1 = es.length) (hS : bS G X a es H locs)
    (kk : ∀ H1, bS G X a (es ++ [.inl (G.2.2.2.1 t, N, .inr (.inr (.inr (.inr (fun _ => none)))))]) H1 locs → zWL G X Y (kc + 1) (ks + N) H1 locs Q (zFr X (pc + 3) arr (.ref (a + es.length) :: rest))) : zWL G X Y kc ks H locs Q (zFr X pc arr (.int n :: rest)) := by
  obtain ⟨hx, hb, hml, hown, hts, hr, hlk, hK, hI, hin, hsz⟩ := h
  refine va_newq hx hb hown (hts _ hl) (hI.2.1 C hov) hK.1 hS.1 (bw_D a es) hS.2 (fun q hq => by show a ≤ q; omega) hn hN hby hc hs hd (fun q cA H1 hK1 hP1 hD1 hS1 => ?_)
  refine l_size (fun hz => ?_)
  have hq := b_pin hP1 hD1 (by omega)
  subst hq
  have e1 : va_RA X.2.2.1 cA (.object C) := (hK1.2 8 (cA, .object C) rfl).2
  have e2 : va_RA X.2.2.1 (G.2.2.2.1 t) (.object C) := by
    have := (hK.1.2 t _ (hK.ty ht)).2
    rw [hC] at this
    exact this
  obtain ⟨-, -, -, -, -, f1⟩ := e1
  obtain ⟨-, -, -, -, -, f2⟩ := e2
  cases Option.some.inj (f1.symm.trans f2)
  exact kk H1 ⟨bS.up hP1, hS1⟩
/-- a field of the object itself -/
theorem i_put (h : iC G X Y a) {ci : Nat} {T : u_T} {N : Nat} {ty : Nat → FieldType} (hc : zCl ci Y.1 T N ty) {fs : List Value} {k idx : Nat} {v : Value} (hk : k < N) (hfl : k < fs.length) (hdecl : (T k).1 = Y.1) (hlink : Cond.fieldLink Y.1 idx (T k).1 (T k).2.1 (T k).2.2.1 ∈ zgw) (hn : narrow (ty k) v = v) (hfit : fits (ty k) v = true) (hd : decode Y.2.1 pc = .ok (.putfield idx, 3)) (hS : bS G X a (.inr (ci, fs) :: es) H locs)
    (kk : ∀ H1 locs1, bS G X a (.inr (ci, fs.set k v) :: es) H1 locs1 → zWL G X Y kc ks H1 locs1 Q (zFr X (pc + 3) arr rest)) : zWL G X Y kc ks H locs Q (zFr X pc arr (v :: .ref a :: rest)) := by
  obtain ⟨hx, hb, hml, hown, hts, hr, hlk, hK, hI, hin, hsz⟩ := h
  obtain ⟨c1, c2, c3, c4, c5, c6, c7⟩ := hc
  have he : (bw a (.inr (ci, fs) :: es))[0]? = some (a, .inr (ci, fs)) := rfl
  cases hf : (T k).2.2.2 with
  | true =>
    refine va_putF hx hb hts c5 ty c6 c7 hown hK.1 hS.1 (bw_D a _) hS.2 0 he c4 k hk (hts _ hlink) (fun x hx => hx) hf hin hdecl (c6 k hk) hn hfit hfl hd (fun H1 locs1 hP1 hD1 hS1 => ?_)
    exact kk H1 locs1 ⟨hP1, hS1⟩
  | false =>
    refine va_put hx hb hts c5 ty c6 c7 hown hK.1 hS.1 (bw_D a _) hS.2 0 he c4 k hk (hts _ hlink) (fun x hx => hx) hf (c6 k hk) hn hfit hfl hd (fun H1 locs1 hP1 hD1 hS1 => ?_)
    exact kk H1 locs1 ⟨hP1, hS1⟩
/-- aload_0; a number; newarray; putfield -/
theorem i_arr (h : iC G X Y a) {t : Nat} {at9 : ArrayType} (ht : t < 8) (hp : zty t = newarray.typeOf at9) (hpr : ∀ U cA, va_RA U cA (newarray.typeOf at9) → U.vm.findClass ("[" ++ (newarray.typeOf at9).toString) = some cA) (harr : Cond.arrayClass (newarray.typeOf at9) ∈ zgw) {n : Int32} {N' : Nat} {c0 : (Nat → Int32) ⊕ (Nat → Int64) ⊕ (Nat → UInt32) ⊕ (Nat → UInt64) ⊕ (Nat → Option Nat)} (ha : ∀ cA : ClassId, vp_cell cA (N', c0) = arrV cA N' (fun _ => defaultValue (newarray.typeOf at9))) (hn : ¬ n < 0) (hN : n.toNatClampNeg = N') (hby : N' * componentBytes (newarray.typeOf at9) ≤ 536870912) (hcc : kc + 1 ≤ Y.2.2.2.2.cells) (hss : ks + N' ≤ Y.2.2.2.2.slots)
    {ci : Nat} {T : u_T} {N : Nat} {ty : Nat → FieldType} (hc : zCl ci Y.1 T N ty) {fs : List Value} {k idx w : Nat} (hk : k < N) (hfl : k < fs.length) (hdecl : (T k).1 = Y.1) (hlink : Cond.fieldLink Y.1 idx (T k).1 (T k).2.1 (T k).2.2.1 ∈ zgw) (hnr : ∀ q, narrow (ty k) (.ref q) = .ref q) (hfit : ∀ q, fits (ty k) (.ref q) = true) {nL : Nat} {lv : List (Nat × Value)} (hl : lv_has arr nL ((0, .ref a) :: lv))
    (d0 : decode Y.2.1 pc = .ok (.aload_n 0, 1)) (d1 : (∃ i, decode Y.2.1 (pc + 1) = .ok (.iconst i, w) ∧ w = 1 ∧ Int32.ofInt i = n) ∨ (∃ i, decode Y.2.1 (pc + 1) = .ok (.bipush i, w) ∧ w = 2 ∧ (Int8.ofInt i).toInt32 = n) ∨ ∃ i, decode Y.2.1 (pc + 1) = .ok (.sipush i, w) ∧ w = 3 ∧ (Int16.ofInt i).toInt32 = n) (d2 : decode Y.2.1 (pc + 1 + w) = .ok (.newarray at9, 2)) (d3 : decode Y.2.1 (pc + 1 + w + 2) = .ok (.putfield idx, 3))
    (hkc : kc = es.length) (hS : bS G X a (.inr (ci, fs) :: es) H locs)
    (kk : ∀ H1 locs1, bS G X a (.inr (ci, fs.set k (.ref (a + (es.length + 1)))) :: (es ++ [.inl (G.2.2.2.1 t, N', c0)])) H1 locs1 → zWL G X Y (kc + 1) (ks + N') H1 locs1 Q (zFr X (pc + 1 + w + 2 + 3) arr rest)) : zWL G X Y kc ks H locs Q (zFr X pc arr rest) := by
  obtain ⟨hx, hb, -⟩ := id h
  refine lv_aload_n hx hb d0 rfl (lv_at hl 0 rfl) ?_
  have k2 : zWL G X Y kc ks H locs Q (zFr X (pc + 1 + w) arr (.int n :: .ref a :: rest)) := by
    refine i_newa h ht hp hpr harr ha hn hN hby hcc hss d2 (by rw [hkc]; rfl) hS (fun H1 hS1 => ?_)
    exact i_put h hc hk hfl hdecl hlink (hnr _) (hfit _) d3 hS1 kk
  rcases d1 with ⟨i, d, rfl, e⟩ | ⟨i, d, rfl, e⟩ | ⟨i, d, rfl, e⟩
  · exact lv_iconst hx hb d e k2
  · exact lv_bipush hx hb d e k2
  · exact lv_sipush hx hb d e k2
/-- aload_0; a number; putfield -/
theorem i_int (h : iC G X Y a) {n : Int32} {ci : Nat} {T : u_T} {N : Nat} {ty : Nat → FieldType} (hc : zCl ci Y.1 T N ty) {fs : List Value} {k idx : Nat} (hk : k < N) (hfl : k < fs.length) (hdecl : (T k).1 = Y.1) (hlink : Cond.fieldLink Y.1 idx (T k).1 (T k).2.1 (T k).2.2.1 ∈ zgw) (hnr : narrow (ty k) (.int n) = .int n) (hfit : fits (ty k) (.int n) = true) {nL : Nat} {lv : List (Nat × Value)} (hl : lv_has arr nL ((0, .ref a) :: lv))
    (d0 : decode Y.2.1 pc = .ok (.aload_n 0, 1)) {i : Int} (d1 : decode Y.2.1 (pc + 1) = .ok (.iconst i, 1)) (e : Int32.ofInt i = n) (d3 : decode Y.2.1 (pc + 2) = .ok (.putfield idx, 3)) (hS : bS G X a (.inr (ci, fs) :: es) H locs)
    (kk : ∀ H1 locs1, bS G X a (.inr (ci, fs.set k (.int n)) :: es) H1 locs1 → zWL G X Y kc ks H1 locs1 Q (zFr X (pc + 5) arr rest)) : zWL G X Y kc ks H locs Q (zFr X pc arr rest) := by
  obtain ⟨hx, hb, -⟩ := id h
  refine lv_aload_n hx hb d0 rfl (lv_at hl 0 rfl) ?_
  refine lv_iconst hx hb d1 e ?_
  exact i_put (pc := pc + 2) h hc hk hfl hdecl hlink hnr hfit d3 hS kk
/-- aload_0; Object() -/
theorem i_obj (h : iC G X Y a) {idx : Nat} {nL : Nat} {lv : List (Nat × Value)} (hl : lv_has arr nL ((0, .ref a) :: lv)) (hnL : nL = Y.2.2.1) (hlink : Cond.methodLink Y.1 idx Lib.objectInit ∈ zgw) (hinst : Cond.instanceMethod Lib.objectInit ∈ zgw) (hcode : Cond.code Lib.objectInit ⟨#[0xb1]⟩ 1 none ∈ zgw) (hfr : 1 ≤ Y.2.2.2.2.frames) (hlo : 12 ≤ Y.2.2.2.2.locals) (d0 : decode Y.2.1 pc = .ok (.aload_n 0, 1)) (d1 : decode Y.2.1 (pc + 1) = .ok (.invokespecial idx, 3))
    (kk : zWL G X Y kc ks H locs Q (zFr X (pc + 4) arr [])) : zWL G X Y kc ks H locs Q (zFr X pc arr []) := by
  obtain ⟨hx, hb, hml, hown, hts, -⟩ := id h
  refine lv_aload_n hx hb d0 rfl (lv_at hl 0 rfl) ?_
  exact W.objInit hx hb hown (hts _ hlink) (hts _ hinst) (hts _ hcode) (g := zFr X (pc + 1) arr [.ref a]) rfl (by rw [hml]; exact hl.1.trans hnL) rfl d1 hfr (by show 0 + 0 + 12 ≤ _; omega) kk
end BL
def iPre (G : zG) (e0 : va_E) (a : Nat) (U : State) : Prop := U.heap.size = a + 1 ∧ va_P G.2.2.1 classes (bw a [e0]) U.heap ∧ zKn G U ∧ zIn a U
abbrev iQ (G : zG) (L : Nat → List va_E) (a : Nat) : Array Value → State → Outcome → State → Prop := va_Qv (fun _ : Unit => True) (fun _ t => va_P G.2.2.1 classes (bw a (L a)) t.heap) (bA a)
/-- a constructor's contract: the object at a, then what it makes -/
def iMet (G : zG) (y : MethodName) (Y : zY) (e0 : va_E) (L : Nat → List va_E) : Prop := ∀ a, Met G.1 y (zws y Y) Y.2.2.2.2 (va_Pc [.ref a] (iPre G e0 a)) (iQ G L a) Y.2.2.2.2.cells Y.2.2.2.2.slots (bA a)
theorem iMet_of {G : zG} {y : MethodName} {Y : zY} {e0 : va_E} {L : Nat → List va_E} (hy : plainName y.cls = true) (hcl : y.cls = Y.1) (hret : Y.2.2.2.1 = none) (hnm : y.name = "<init>") (h1 : 1 ≤ Y.2.2.1)
    (hb : ∀ (X : zX) (a : Nat) (arr : Array Slot), iC G X Y a → bS G X a [e0] X.2.2.1.heap [] → lv_has arr Y.2.2.1 [(0, .ref a)] → zWL G X Y 0 0 X.2.2.1.heap [] (MQ X.2.2.2.2.2.1 (iQ G L a) X.2.2.2.2.1 X.2.2.1 Y.2.2.2.2.cells Y.2.2.2.2.slots (bA a)) (zFr X 0 arr [])) : iMet G y Y e0 L := by
  intro a
  refine Met.ofW (cc := Y.2.1) (maxL := Y.2.2.1) (ret := Y.2.2.2.1) hy rfl ?_
  intro p e s m args below meth c s₁ B hml hv
  obtain ⟨rfl, hsz, hP, hK, hI⟩ := hv
  have hts : ∀ w ∈ zgw, w.before ([.ref a] : List Value).toArray s = true := fun w h => atoms_spec (ws := zws y Y) B.pre w (List.mem_cons_of_mem _ h)
  have hown : s.vm.findClass Y.1 = some m.cls := by rw [← hcl]; exact findClass_of_methodNamed B.named
  have hin : meth.name = "<init>" := ((name_of_methodNamed B.named B.method).1).trans hnm
  have hC : iC G (p, e, s, m, ([.ref a] : List Value).toArray, below, meth, c) Y a := ⟨B.exec, B.bytes, hml, hown, hts, B.returns.trans hret, B.notSynchronized, hK, hI, hin, hsz⟩
  have hl := lv_entry ([.ref a] : List Value) (n := Y.2.2.1) h1
  rw [lg_entry_eq]
  exact hb (p, e, s, m, ([.ref a] : List Value).toArray, below, meth, c) a _ hC ⟨hP, va_S.rf⟩ hl
theorem iPre_blind {G : zG} {e0 : va_E} {a : Nat} : FrameBlind (va_Pc [.ref a] (iPre G e0 a)) := fun v U g mk q => ⟨q.1, q.2.1, q.2.2.1, zKn.same (s := U) rfl q.2.2.2.1, zIn.same (s := U) rfl rfl q.2.2.2.2⟩
section BN
variable {G : zG} {X : zX} {Y : zY} {Q : State → Prop} {pc kc ks a : Nat} {H : Heap} {locs : List Loc} {arr : Array Slot} {rest : List Value} {es : List va_E}
/-- new; dup; the constructor -/
theorem i_new (h : iC G X Y a) {C : String} {T : u_T} {N ci ik ic : Nat} {ty : Nat → FieldType} {fs0 : List Value} {y : MethodName} {Y' : zY} {L : Nat → List va_E} (hm : iMet G y Y' (.inr (ci, fs0)) L) (hc : zCl ci C T N ty) (hyC : y.cls = C) (hyi : y.name = "<init>") (hmd : zMd y 0) (hr2 : Y'.2.2.2.1 = none)
    (hrm : Y'.2.2.2.2.frames + 1 ≤ Y.2.2.2.2.frames ∧ 8 + (Y'.2.2.1 + 11) + Y'.2.2.2.2.locals ≤ Y.2.2.2.2.locals) (hfs : ∀ j, j < N → defaultValue (ty j) = vp_V fs0 j)
    (hw : Cond.classLink Y.1 ik C ∈ zgw ∧ Cond.instantiable C N ∈ zgw ∧ Cond.initialized C ∈ zgw ∧ Cond.instanceMethod y ∈ zgw ∧ Cond.code y Y'.2.1 Y'.2.2.1 none ∈ zgw) (hlk : Cond.methodLink Y.1 ic y ∈ zgw ∨ Cond.methodLinkNest Y.1 ic y "KnockBank" ∈ znestI)
    (hcc : kc + 1 + Y'.2.2.2.2.cells ≤ Y.2.2.2.2.cells) (hss : ks + N + Y'.2.2.2.2.slots ≤ Y.2.2.2.2.slots) (hrs : (rest.map fun v => v.category).sum ≤ 7) {nL : Nat} {lv : List (Nat × Value)} (hl : lv_has arr nL lv) (hnL : nL = Y.2.2.1)
    (d0 : decode Y.2.1 pc = .ok (.new ik, 3)) (d1 : decode Y.2.1 (pc + 3) = .ok (.dup, 1)) (d2 : decode Y.2.1 (pc + 4) = .ok (.invokespecial ic, 3)) (hkc : kc + 1 = es.length) (hS : bS G X a es H locs)
    (kk : ∀ H1 locs1, bS G X a (es ++ L (a + es.length)) H1 locs1 → zWL G X Y (kc + 1 + Y'.2.2.2.2.cells) (ks + N + Y'.2.2.2.2.slots) H1 locs1 Q (zFr X (pc + 7) arr (.ref (a + es.length) :: rest))) : zWL G X Y kc ks H locs Q (zFr X pc arr rest) := by
  obtain ⟨hx, hb, hml, hown, hts, hr, hlk0, hK, hI, hin, hsz⟩ := id h
  obtain ⟨c1, c2, c3, c4, c5, c6, c7⟩ := hc
  refine va_new hx hb hts c5 ty c6 hown (hts _ hw.1) (hts _ hw.2.1) (hts _ hw.2.2.1) hK.1 hS.1 (bw_D a es) hS.2 (fun q hq => by show a ≤ q; omega) c4 hfs (by omega) (by omega) d0 (fun q H1 hP1 hD1 hS1 => ?_)
  refine l_size (fun hz => ?_)
  have hq := b_pin hP1 hD1 (by omega)
  subst hq
  refine lv_dup hx hb d1 rfl ?_
  have hPn : va_P G.2.2.1 classes (bw (a + es.length) [.inr (ci, fs0)]) H1 := fun k q hk => hP1 (es.length + k) q (by
    rw [List.getElem?_append_right (by rw [bw_len]; omega), bw_len, Nat.add_sub_cancel_left]; exact hk)
  have hPo : va_P G.2.2.1 classes (bw a es) H1 := fun k q hk => hP1 k q (by
    rw [List.getElem?_append_left (List.getElem?_eq_some_iff.mp hk).1]; exact hk)
  have hlt : a + es.length < H1.size := (hPn 0 _ rfl).lt
  have hG : GoodIn zgw (zws y Y') := zgw_in (fun w h => by
    rcases List.mem_cons.mp h with rfl | h
    · rw [hr2]; exact hw.2.2.2.2
    · exact h)
  have hpre : PreS X.2.2.1 H1 (va_Pc [.ref (a + es.length)] (iPre G (.inr (ci, fs0)) (a + es.length))) [.ref (a + es.length)] := ⟨iPre_blind, fun U hU hW => ⟨rfl, by rw [hU]; omega, by rw [hU]; exact hPn, hK.warm hW, zIn.at hW hU hS1 (by omega) hI⟩⟩
  have hroom : kc + 1 + Y'.2.2.2.2.cells ≤ Y.2.2.2.2.cells ∧ ks + N + Y'.2.2.2.2.slots ≤ Y.2.2.2.2.slots := ⟨hcc, hss⟩
  have hW9 : 2 * (zFr X (pc + 4) arr [.ref (a + es.length)]).monitorRoom + ((Value.ref (a + es.length) :: rest).map fun v => v.category).sum ≤ 8 := by
    show 0 + (1 + (rest.map fun v => v.category).sum) ≤ 8
    omega
  have run : va_Run X.1 G.1 X.2.1 Y.2.2.2.2 X.2.2.1 X.2.2.2.1 X.2.2.2.2.1 X.2.2.2.2.2.1 X.2.2.2.2.2.2.1 X.2.2.2.2.2.2.2 H1 locs (kc + 1) (ks + N) Y'.2.2.2.2.cells Y'.2.2.2.2.slots (zFr X (pc + 4) arr (.ref (a + es.length) :: .ref (a + es.length) :: rest)) (.ref (a + es.length) :: rest) (iQ G L (a + es.length) [.ref (a + es.length)].toArray) (bA (a + es.length)) := by
    rcases hlk with hlk | hlk
    · exact va_runI (bytes := Y'.2.1) (maxL := Y'.2.2.1) (As := []) (n := 0) ⟨hx, hb, hml, hown, hts⟩ (hm (a + es.length)) (cwI 0 hts hG (by unfold zws; rw [hr2]) rfl rfl (by rw [hyC]; exact hts _ hw.2.2.1) (hts _ hlk) (hts _ hw.2.2.2.1) hyi hmd hrm) hpre rfl rfl (hl.1.trans hnL) rfl hW9 d2 hroom
    · exact va_runIN (bytes := Y'.2.1) (maxL := Y'.2.2.1) (As := []) (n := 0) ⟨hx, hb, hml, hown, hts⟩ (hm (a + es.length)) ⟨va_cnB 0 hts hG (by unfold zws; rw [hr2]) rfl rfl (hI.1 _ hlk) (by rw [hyC]; exact hts _ hw.2.2.1) hmd hrm, hyi, hts _ hw.2.2.2.1⟩ hpre rfl rfl (hl.1.trans hnL) rfl hW9 d2 hroom
  refine va_callv run hS1 (fun q _ hq => by have hq : a + es.length ≤ q := hq; show a ≤ q; omega) (fun q hq => by have hq : a + es.length ≤ q := hq; show a ≤ q; omega) (fun u t H2 locs2 ht hal _ hB hsz2 hq hS2 => ?_)
  refine kk H2 locs2 ⟨?_, hS2⟩
  rw [bw_app]
  have hB : va_P G.2.2.1 classes (bw (a + es.length) (L (a + es.length))) H2 := by rw [← ht]; exact hB
  exact (hPo.kept (fun k q hk => hq _ (hPo k q hk).lt (fun z => by
    have h1 := (bw_at hk).1
    have h2 := (List.getElem?_eq_some_iff.mp (bw_at hk).2).1
    have z : a + es.length ≤ q.1 := z
    omega))).app hB
end BN
