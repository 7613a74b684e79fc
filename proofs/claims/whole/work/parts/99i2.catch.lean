-- A THROW IS CAUGHT: one row of a table, looked at with its class linked there and then
theorem hd_row {e : Env} {S : State} {f : JFrame} {a : Addr} {x : ExceptionTableEntry} {t : List ExceptionTableEntry} {c : ClassId} {cell : Cell} {k1 k2 : Class} (hx : covers x f.pc = true) (h0 : x.catchType ≠ 0)
    (hl : S.vm.ClassLinks e.platform f.method.cls x.catchType c) (hcell : S.heap[a]? = some cell) (hobj : ∀ k, cell.vm ≠ .statics k) (hk1 : S.vm.classes[cell.cls]? = some k1) (hk2 : S.vm.classes[c]? = some k2) (Q : Handler → Pre) (E : CtlPost) (d : Bool) (acts : List Action) :
    wp (findHandler.go f a (x :: t)) Q E e d acts S ↔ (if S.vm.assignable cell.cls c = true then Q (.found x.handlerPc) d acts (S.setVm (S.vm.noted f.method.cls x.catchType (.cls c))) else wp (findHandler.go f a t) Q E e d acts (S.setVm (S.vm.noted f.method.cls x.catchType (.cls c)))) := by
  have hn : S.vm.Alike (S.vm.noted f.method.cls x.catchType (.cls c)) := (Vm.Alike.refl S.vm).noted _ _ _
  obtain ⟨g1, g2⟩ := (resolveClass_links e.toSetting hl).op (op := VmOp.resolveClass f.method.cls x.catchType) rfl
  obtain ⟨z1, y1, -⟩ := hn.2.2 _ _ hk1
  obtain ⟨z2, y2, -⟩ := hn.2.2 _ _ hk2
  have ea : (S.vm.noted f.method.cls x.catchType (.cls c)).assignable cell.cls c = S.vm.assignable cell.cls c := hn.assignable _ _
  simp only [covers] at hx
  cases hf : S.vm.assignable cell.cls c <;> rw [hf] at ea <;> simp [findHandler.go, hx, h0, g1, g2, hcell, hobj, y1, y2, ea, VmOp.dirties, VmOp.acts]
/-- the search, from a warmer state on: what row 1 of a table says, by whether her class takes the thing thrown -/
theorem hd_step {e : Env} {s S : State} {f : JFrame} {a : Addr} {x : ExceptionTableEntry} {t : List ExceptionTableEntry} {c : ClassId} {cell : Cell} (hW : s.WarmedH S.vm) (hx : covers x f.pc = true) (h0 : x.catchType ≠ 0)
    (hl : s.vm.ClassLinks e.platform f.method.cls x.catchType c) (hcell : S.heap[a]? = some cell) (hobj : ∀ k, cell.vm ≠ .statics k) (hk : ∃ k, s.vm.classes[cell.cls]? = some k) :
    ∃ vm', s.WarmedH vm' ∧ ∀ (Q : Handler → Pre) (E : CtlPost) (d : Bool) (acts : List Action), wp (findHandler.go f a (x :: t)) Q E e d acts S ↔ (if s.vm.assignable cell.cls c = true then Q (.found x.handlerPc) d acts (S.setVm vm') else wp (findHandler.go f a t) Q E e d acts (S.setVm vm')) := by
  obtain ⟨k1, hk1⟩ := hk
  obtain ⟨dk, _, _, k2, hd, _, _, _, _, hk2, _, hopen⟩ := hl.here
  obtain ⟨z1, y1, -⟩ := hW.alike.2.2 _ _ hk1
  obtain ⟨z2, y2, -⟩ := hW.alike.2.2 _ _ hk2
  refine ⟨_, hW.noted hd hopen (State.rightAt_cls hl), fun Q E d acts => ?_⟩
  have := hd_row (t := t) hx h0 (hW.classLinks hl) hcell hobj y1 y2 Q E d acts
  rw [hW.alike.assignable] at this
  exact this
/-- a found handler is entered -/
theorem hd_enter {tb : Tables} {e : Env} {T target : State} {g : JFrame} {c : Code} {below : List Frame} {a : Addr} (h : At T g.method c below) {pc : Nat} {vm' : Vm}
    (hfind : ∀ (Q : Handler → Pre) (E : CtlPost) (d : Bool) (acts : List Action), wp (findHandler g a) Q E e d acts ((T.setTop g).pushFrame (.throwing a)) ↔ Q (.found pc) d acts (((T.setTop g).pushFrame (.throwing a)).setVm vm'))
    (hrest : Steps tb e below ((T.setVm vm').setTop { g with pc := pc, stack := [.ref a] }) target) : Steps tb e below ((T.setTop g).pushFrame (.throwing a)) target := by
  obtain ⟨go, hw⟩ := h.throwing a
  obtain ⟨g0, hg⟩ := Option.isSome_iff_exists.mp h.top
  obtain ⟨r, hr⟩ := State.topJava?_eq_some.mp hg
  have key : ∀ (S : State) (fs : List Frame), (∀ (Q : Handler → Pre) (E : CtlPost) (d : Bool) (acts : List Action), wp (findHandler g a) Q E e d acts S ↔ Q (.found pc) d acts (S.setVm vm')) → (stepThrowing e S a (.java g :: fs)).Is ((S.setVm vm').setFrames (.java { g with pc := pc, stack := [.ref a] } :: fs)) [] := by
    intro S fs hS
    simp only [stepThrowing, searchFrame, vmDo]
    generalize hq : Sem.go _ e false [] S = res
    obtain ⟨as, rfl, ha⟩ := Sem.eq_ok_of hq (a := Handler.found pc) (s' := S.setVm vm') (acts' := []) (by simp [hS _ _ _ _])
    exact ⟨rfl, ha⟩
  refine Steps.head go hw ?_
  rw [stepThread_throwing (frames_entered h.top _), (key _ _ hfind).1]
  have hr2 : (T.setVm vm').frames = .java g0 :: r := hr
  have sw : ∀ (u : State) (F F2 : List Frame), ((u.setFrames F).setVm vm').setFrames F2 = (u.setVm vm').setFrames F2 := fun u F F2 => by
    rw [show (u.setFrames F).setVm vm' = (u.setVm vm').setFrames F from rfl, State.setFrames_setFrames]
  rw [State.setTop_of_frames _ hr2] at hrest
  rw [hr, List.tail_cons, State.pushFrame, sw, State.setTop_of_frames _ hr, sw]
  exact hrest
section HD
variable {p : Program} {l : Launch} {e : Env} {R : Room} {s : State} {m : MethodId} {args : Array Value} {below : List Frame} {meth : Method} {c : Code} {H : Heap} {locs : List Loc} {cells slots : Nat} {Q : State → Prop} {pc : Nat} {ls : Array Slot} {rest : List Value}
/-- caught by the first row -/
theorem hd_catch0 {own name E : String} {ce : Cell} {q : Addr} {x : ExceptionTableEntry} {t : List ExceptionTableEntry} (hown : s.vm.findClass own = some m.cls) (ht : c.exceptionTable.toList = x :: t) (hx : covers x pc = true) (h0 : x.catchType ≠ 0)
    (hlink : (Cond.classLink own x.catchType name).before args s = true) (hcast : (Cond.castable E name).before args s = true) (hcell : H[q]? = some ce) (hv : ce.vm = .none) (hcl : s.vm.findClass E = some ce.cls)
    (kk : W p l e R s m args below meth c H locs cells slots Q (F0 m x.handlerPc ls [.ref q])) : vx_W p l e R s m args below meth c H locs cells slots Q (F0 m pc ls rest) q := by
  intro T hT X
  have hpl : e.platform.magicAccessors = ({} : Platform).magicAccessors := by rw [X.admits.platform]
  obtain ⟨c3, c4, hc3, hc4, hasg⟩ := Cond.castable_spec hcast
  cases Option.some.inj (hc3.symm.trans hcl)
  obtain ⟨c5, hc5, hcl5⟩ := Cond.classLink_spec hown hlink e.platform hpl
  cases Option.some.inj (hc4.symm.trans hc5)
  have hk : ∃ k, s.vm.classes[ce.cls]? = some k := by obtain ⟨k9, h9, -⟩ := Vm.findClass_spec hcl; exact ⟨k9, h9⟩
  have hobj : ∀ k, ce.vm ≠ .statics k := fun k z => by rw [hv] at z; cases z
  obtain ⟨vm1, hW1, h1⟩ := hd_step (e := e) (S := (T.setTop (F0 m pc ls rest)).pushFrame (.throwing q)) (f := F0 m pc ls rest) (a := q) (t := t) X.warmed hx h0 hcl5 (show T.heap[q]? = some ce by rw [hT]; exact hcell) hobj hk
  have h1 := fun Q E d acts => (h1 Q E d acts).trans (by rw [if_pos hasg])
  obtain ⟨t2, a1, b1⟩ := kk (T.setVm vm1) hT (X.noted hW1)
  exact ⟨t2, hd_enter X.here (fun Q E d acts => by rw [W.findHandler_eq X.method' X.code, ht]; exact h1 Q E d acts) a1, b1⟩
/-- caught by the second row, past the first -/
theorem hd_catch1 {own name nm0 E : String} {ce : Cell} {q : Addr} {y x : ExceptionTableEntry} {t : List ExceptionTableEntry} (hown : s.vm.findClass own = some m.cls) (ht : c.exceptionTable.toList = y :: x :: t) (hy : covers y pc = true) (hy0 : y.catchType ≠ 0) (hx : covers x pc = true) (h0 : x.catchType ≠ 0)
    (hlink0 : (Cond.classLink own y.catchType nm0).before args s = true) (hno : va_Nc E nm0 s) (hlink : (Cond.classLink own x.catchType name).before args s = true) (hcast : (Cond.castable E name).before args s = true) (hcell : H[q]? = some ce) (hv : ce.vm = .none) (hcl : s.vm.findClass E = some ce.cls)
    (kk : W p l e R s m args below meth c H locs cells slots Q (F0 m x.handlerPc ls [.ref q])) : vx_W p l e R s m args below meth c H locs cells slots Q (F0 m pc ls rest) q := by
  intro T hT X
  have hpl : e.platform.magicAccessors = ({} : Platform).magicAccessors := by rw [X.admits.platform]
  obtain ⟨c3, c4, hc3, hc4, hasg⟩ := Cond.castable_spec hcast
  cases Option.some.inj (hc3.symm.trans hcl)
  obtain ⟨c5, hc5, hcl5⟩ := Cond.classLink_spec hown hlink e.platform hpl
  cases Option.some.inj (hc4.symm.trans hc5)
  obtain ⟨c6, hc6, hcl6⟩ := Cond.classLink_spec hown hlink0 e.platform hpl
  obtain ⟨a8, b8, g1, g2, g3⟩ := hno
  cases Option.some.inj (g1.symm.trans hcl)
  cases Option.some.inj (g2.symm.trans hc6)
  have hk : ∃ k, s.vm.classes[ce.cls]? = some k := by obtain ⟨k9, h9, -⟩ := Vm.findClass_spec hcl; exact ⟨k9, h9⟩
  have hobj : ∀ k, ce.vm ≠ .statics k := fun k z => by rw [hv] at z; cases z
  obtain ⟨vm1, hW1, h1⟩ := hd_step (e := e) (S := (T.setTop (F0 m pc ls rest)).pushFrame (.throwing q)) (f := F0 m pc ls rest) (a := q) (t := x :: t) X.warmed hy hy0 hcl6 (show T.heap[q]? = some ce by rw [hT]; exact hcell) hobj hk
  have h1 := fun Q E d acts => (h1 Q E d acts).trans (by rw [if_neg (by rw [g3]; decide)])
  obtain ⟨vm2, hW2, h2⟩ := hd_step (e := e) (S := ((T.setTop (F0 m pc ls rest)).pushFrame (.throwing q)).setVm vm1) (f := F0 m pc ls rest) (a := q) (t := t) hW1 hx h0 hcl5 (show T.heap[q]? = some ce by rw [hT]; exact hcell) hobj hk
  have h2 := fun Q E d acts => (h2 Q E d acts).trans (by rw [if_pos hasg])
  obtain ⟨t2, a1, b1⟩ := kk (T.setVm vm2) hT (X.noted hW2)
  exact ⟨t2, hd_enter X.here (fun Q E d acts => by rw [W.findHandler_eq X.method' X.code, ht, h1 Q E d acts]; exact h2 Q E d acts) a1, b1⟩
end HD
