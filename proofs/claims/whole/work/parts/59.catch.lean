/-! CATCHING: what a callee throws is taken by a row of this method's table -/
/-- one row that covers the place, its class linked or not yet: tables warm, then the answer of the class -/
theorem cx_row {Q : Handler → Pre} {E : CtlPost} {e : Env} {d : Bool} {acts : List Action} {s : State} {f : JFrame} {a : Addr} {x : ExceptionTableEntry} {t : List ExceptionTableEntry} {k : ClassId} {o : Cell} (hx : covers x f.pc = true) (h0 : x.catchType ≠ 0) (hl : s.vm.ClassLinks e.platform f.method.cls x.catchType k) (ho : s.heap[a]? = some o) (hv : o.vm = .none) (h1 : ∃ z, s.vm.classes[o.cls]? = some z) (h2 : ∃ z, s.vm.classes[k]? = some z) :
    wp (findHandler.go f a (x :: t)) Q E e d acts s ↔ if s.vm.assignable o.cls k = true then Q (.found x.handlerPc) d acts (s.setVm (s.vm.noted f.method.cls x.catchType (.cls k))) else wp (findHandler.go f a t) Q E e d acts (s.setVm (s.vm.noted f.method.cls x.catchType (.cls k))) := by
  have al : s.vm.Alike (s.vm.noted f.method.cls x.catchType (.cls k)) := (Vm.Alike.refl s.vm).noted _ _ _
  have hob : ∀ z, o.vm ≠ .statics z := fun z q => by rw [hv] at q; cases q
  obtain ⟨z1, h1⟩ := h1
  obtain ⟨z2, h2⟩ := h2
  obtain ⟨y1, g1, -⟩ := al.2.2 _ _ h1
  obtain ⟨y2, g2, -⟩ := al.2.2 _ _ h2
  obtain ⟨r1, r2⟩ := (resolveClass_links e.toSetting hl).op (op := VmOp.resolveClass f.method.cls x.catchType) rfl
  simp only [covers] at hx
  rw [← al.assignable o.cls k]
  cases hq : (s.vm.noted f.method.cls x.catchType (.cls k)).assignable o.cls k <;> simp [findHandler.go, hx, h0, r1, r2, ho, hob, g1, g2, hq, VmOp.dirties, VmOp.acts]
/-- the class that a row names, and whether the thrown object is of it -/
def cx_is (pl : Platform) (s : State) (cls o : ClassId) (b : Bool) (x : ExceptionTableEntry) : Prop := x.catchType ≠ 0 ∧ ∃ k, s.vm.ClassLinks pl cls x.catchType k ∧ s.vm.assignable o k = b
theorem cx_go {e : Env} {s : State} {f : JFrame} {a : Addr} {o : Cell} (hv : o.vm = .none) (hk : ∃ z, s.vm.classes[o.cls]? = some z) {x : ExceptionTableEntry} {suf : List ExceptionTableEntry} (hx : covers x f.pc = true) (hend : cx_is e.platform s f.method.cls o.cls true x) (pre : List ExceptionTableEntry) : ∀ S : State, s.WarmedH S.vm → S.heap[a]? = some o → (∀ z ∈ pre, covers z f.pc = true ∧ cx_is e.platform s f.method.cls o.cls false z) →
    ∃ vm', s.WarmedH vm' ∧ ∀ (Q : Handler → Pre) (E : CtlPost) (d : Bool) (acts : List Action), wp (findHandler.go f a (pre ++ x :: suf)) Q E e d acts S ↔ Q (.found x.handlerPc) d acts (S.setVm vm') := by
  have one : ∀ (S : State) (y : ExceptionTableEntry) (t : List ExceptionTableEntry) (b : Bool), s.WarmedH S.vm → S.heap[a]? = some o → covers y f.pc = true → cx_is e.platform s f.method.cls o.cls b y → ∃ vm', s.WarmedH vm' ∧ ∀ (Q : Handler → Pre) (E : CtlPost) (d : Bool) (acts : List Action), wp (findHandler.go f a (y :: t)) Q E e d acts S ↔ if b = true then Q (.found y.handlerPc) d acts (S.setVm vm') else wp (findHandler.go f a t) Q E e d acts (S.setVm vm') := by
    intro S y t b hW ho hc hi
    obtain ⟨h0, k, hl, hb⟩ := hi
    obtain ⟨z0, hz0⟩ := hk
    obtain ⟨y0, g0, -⟩ := hW.alike.2.2 _ _ hz0
    obtain ⟨dk, _, _, kt, hd, _, _, _, _, hkt, _, hopen⟩ := hl.here
    obtain ⟨y2, g2, -⟩ := hW.alike.2.2 _ _ hkt
    refine ⟨_, hW.noted hd hopen (State.rightAt_cls hl), fun Q E d acts => ?_⟩
    rw [cx_row hc h0 (hW.classLinks hl) ho hv ⟨y0, g0⟩ ⟨y2, g2⟩, hW.alike.assignable, hb]
  induction pre with
  | nil =>
    intro S hW ho _
    obtain ⟨vm', w1, w2⟩ := one S x suf true hW ho hx hend
    exact ⟨vm', w1, fun Q E d acts => by rw [List.nil_append, w2, if_pos rfl]⟩
  | cons y r ih =>
    intro S hW ho hp
    obtain ⟨c1, c2⟩ := hp y List.mem_cons_self
    obtain ⟨vm', w1, w2⟩ := one S y (r ++ x :: suf) false hW ho c1 c2
    obtain ⟨vm2, v1, v2⟩ := ih (S.setVm vm') w1 ho (fun z hz => hp z (List.mem_cons_of_mem _ hz))
    refine ⟨vm2, v1, fun Q E d acts => ?_⟩
    rw [List.cons_append, w2, if_neg (by decide), v2]
    rfl
theorem cx_catch {p : Program} {l : Launch} {e : Env} {R : Room} {s : State} {m : MethodId} {args : Array Value} {below : List Frame} {meth : Method} {c : Code} {H : Heap} {locs : List Loc} {cells slots pc : Nat} {Q : State → Prop} {la : Array Slot} {rest : List Value} {own name E : String} {ce : Cell} {q : Addr} (hown : s.vm.findClass own = some m.cls) {pre suf : List ExceptionTableEntry} {x : ExceptionTableEntry} (hsplit : c.exceptionTable.toList = pre ++ x :: suf)
    (hpass : ∀ z ∈ pre, covers z pc = true ∧ z.catchType ≠ 0 ∧ ∃ nm : String, (Cond.classLink own z.catchType nm).before args s = true ∧ (Cond.not (.castable E nm)).before args s = true) (hx : covers x pc = true) (h0 : x.catchType ≠ 0) (hlink : (Cond.classLink own x.catchType name).before args s = true) (hcast : (Cond.castable E name).before args s = true) (hcell : H[q]? = some ce) (hv : ce.vm = .none) (hcl : s.vm.findClass E = some ce.cls)
    (kk : W p l e R s m args below meth c H locs cells slots Q (F0 m x.handlerPc la [.ref q])) : vx_W p l e R s m args below meth c H locs cells slots Q (F0 m pc la rest) q := by
  intro T hT X
  have hpl : e.platform.magicAccessors = ({} : Platform).magicAccessors := by rw [X.admits.platform]
  have hend : cx_is e.platform s m.cls ce.cls true x := by
    obtain ⟨c3, c4, g3, g4, g5⟩ := Cond.castable_spec hcast
    cases Option.some.inj (g3.symm.trans hcl)
    obtain ⟨c5, g6, g7⟩ := Cond.classLink_spec hown hlink e.platform hpl
    cases Option.some.inj (g4.symm.trans g6)
    exact ⟨h0, c4, g7, g5⟩
  have hps : ∀ z ∈ pre, covers z pc = true ∧ cx_is e.platform s m.cls ce.cls false z := by
    intro z hz
    obtain ⟨a1, a2, nm, a3, a4⟩ := hpass z hz
    obtain ⟨c5, g6, g7⟩ := Cond.classLink_spec hown a3 e.platform hpl
    have a5 := Cond.holds_not_iff.mp a4
    simp only [Cond.value, hcl, g6] at a5
    exact ⟨a1, a2, c5, g7, Option.some.inj a5⟩
  obtain ⟨vm', w1, w2⟩ := cx_go (e := e) (s := s) (f := F0 m pc la rest) (a := q) (o := ce) (suf := suf) hv (Vm.classAt_of_findClass hcl) hx hend pre ((T.setTop (F0 m pc la rest)).pushFrame (.throwing q)) X.warmed (by show T.heap[q]? = _; rw [hT]; exact hcell) hps
  obtain ⟨t, a1, b1⟩ := kk (T.setVm vm') hT (X.noted w1)
  refine ⟨t, ?_, b1⟩
  have hf : ∀ (Q : Handler → Pre) (E : CtlPost) (d : Bool) (acts : List Action), wp (findHandler (F0 m pc la rest) q) Q E e d acts ((T.setTop (F0 m pc la rest)).pushFrame (.throwing q)) ↔ Q (.found x.handlerPc) d acts (((T.setTop (F0 m pc la rest)).pushFrame (.throwing q)).setVm vm') := by
    intro Q E d acts
    rw [W.findHandler_eq (meth := meth) (code := c) X.method' X.code, hsplit]
    exact w2 Q E d acts
  have hh : At T m c below := X.here
  obtain ⟨hgo, hw⟩ := At.throwing (g := F0 m pc la rest) hh q
  have hstep : (stepThrowing e ((T.setTop (F0 m pc la rest)).pushFrame (.throwing q)) q (.java (F0 m pc la rest) :: T.frames.tail)).Is ((((T.setTop (F0 m pc la rest)).pushFrame (.throwing q)).setVm vm').setFrames (.java { F0 m pc la rest with pc := x.handlerPc, stack := [.ref q] } :: T.frames.tail)) [] := by
    simp only [stepThrowing, searchFrame, vmDo]
    generalize hr : Sem.go _ e false [] ((T.setTop (F0 m pc la rest)).pushFrame (.throwing q)) = res
    obtain ⟨as, rfl, ha⟩ := Sem.eq_ok_of hr (a := Handler.found x.handlerPc) (s' := ((T.setTop (F0 m pc la rest)).pushFrame (.throwing q)).setVm vm') (acts' := []) (by simp [hf _ _ _ _])
    exact ⟨rfl, ha⟩
  refine Steps.head hgo hw ?_
  rw [stepThread_throwing (frames_entered hh.top _), hstep.1]
  obtain ⟨g9, h9⟩ := X.frames_eq
  have e1 : ((T.setTop (F0 m pc la rest)).pushFrame (.throwing q)) = T.setFrames (.throwing q :: .java (F0 m pc la rest) :: below) := by
    rw [State.pushFrame, State.frames_setTop _ h9, State.setTop_of_frames _ h9, State.setFrames_setFrames]
  have e2 : ((T.setVm vm').setTop { F0 m pc la rest with pc := x.handlerPc, stack := [.ref q] }) = (T.setVm vm').setFrames (.java { F0 m pc la rest with pc := x.handlerPc, stack := [.ref q] } :: below) := State.setTop_of_frames (s := T.setVm vm') _ h9
  rw [e1, State.setFrames_setVm, State.setFrames_setFrames, h9, List.tail_cons]
  have a2 : Steps p.tables e below ((T.setVm vm').setTop { F0 m pc la rest with pc := x.handlerPc, stack := [.ref q] }) t := a1
  rw [e2] at a2
  exact a2
