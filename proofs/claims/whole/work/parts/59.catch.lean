/-! CATCHING: what a callee throws is taken by a row of this method's table -/
/-- one row that covers the place, its class linked or not yet: tables warm, then the answer of the class -/
theorem cx_row {Q : Handler → Pre} {E : CtlPost} {e : Env} {d : Bool} {acts : List Action} {s : State} {f : JFrame} {a : Addr} {x : ExceptionTableEntry} {t : List ExceptionTableEntry} {k : ClassId} {o : Cell} (hx : covers x f.pc = true) (h0 : x.catchType ≠ 0) (hl : s.vm.ClassLinks e.platform f.method.cls x.catchType k) (ho : s.heap[a]? = some o) (hv : o.vm = .none) (h1 : ∃ z, s.vm.classes[o.cls]? = some z) (h2 : ∃ z, s.vm.classes[k]? = some z) :
    wp (findHandler.go f a (x :: t)) Q E e d acts s ↔ if s.vm.assignable o.cls k = true then Q (.found x.handlerPc) d acts (s.setVm (s.vm.noted f.method.cls x.catchType (.cls k))) else wp (findHandler.go f a t) Q E e d acts (s.setVm (s.vm.noted f.method.cls x.catchType (.cls k))) := by
  have al : s.vm.Alike (s.vm.noted f.method.cls x.catchType (.cls k)) := (Vm.Alike.refl s.vm).noted _ _ _
  have hob : ∀ z, o.vm ≠ .statics z := fun z q => by rw [hv] at q; cases q
  obtain ⟨z1, h1⟩ := h1
  obtain ⟨z2, h2⟩ := h2
  obtain ⟨y1, g1, -⟩ := al.2.2 _ _ h1
  obtain ⟨y2, g2, -⟩ := al.2.2 _ _ h2
  obtain ⟨r1, r2⟩ := (resolveClass_links e.toSetting hl).op (op := VmOp.resolveClass f.method.cls x.catchType) rfl
  simp only [covers] at hx
  rw [← al.assignable o.cls k]
  cases hq : (s.vm.noted f.method.cls x.catchType (.cls k)).assignable o.cls k <;> simp [findHandler.go, hx, h0, r1, r2, ho, hob, g1, g2, hq, VmOp.dirties, VmOp.acts]
/-- the class that a row names, and whether the thrown object is of it -/
def cx_is (pl : Platform) (s : State) (cls o : ClassId) (b : Bool) (x : ExceptionTableEntry) : Prop := x.catchType ≠ 0 ∧ ∃ k, s.vm.ClassLinks pl cls x.catchType k ∧ s.vm.assignable o k = b
theorem cx_go {e : Env} {s : State} {f : JFrame} {a : Addr} {o : Cell} (hv : o.vm = .none) (hk : ∃ z, s.vm.classes[o.cls]? = some z) {x : ExceptionTableEntry} {suf : List ExceptionTableEntry} (hx : covers x f.pc = true) (hend : cx_is e.platform s f.method.cls o.cls true x) (pre : List ExceptionTableEntry) : ∀ S : State, s.WarmedH S.vm → S.heap[a]? = some o → (∀ z ∈ pre, covers z f.pc = true ∧ cx_is e.platform s f.method.cls o.cls false z) →
    ∃ vm', s.WarmedH vm' ∧ ∀ (Q : Handler → Pre) (E : CtlPost) (d : Bool) (acts : List Action), wp (findHandler.go f a (pre ++ x :: suf)) Q E e d acts S ↔ Q (.found x.handlerPc) d acts (S.setVm vm') := by
  have one : ∀ (S : State) (y : ExceptionTableEntry) (t : List ExceptionTableEntry) (b : Bool), s.WarmedH S.vm → S.heap[a]? = some o → covers y f.pc = true → cx_is e.platform s f.method.cls o.cls b y → ∃ vm', s.WarmedH vm' ∧ ∀ (Q : Handler → Pre) (E : CtlPost) (d : Bool) (acts : List Action), wp (findHandler.go f a (y :: t)) Q E e d acts S ↔ if b = true then Q (.found y.handlerPc) d acts (S.setVm vm') else wp (findHandler.go f a t) Q E e d acts (S.setVm vm') := by
    intro S y t b hW ho hc hi
    obtain ⟨h0, k, hl, hb⟩ := hi
    obtain ⟨z0, hz0⟩ := hk
    obtain ⟨y0, g0, -⟩ := hW.alike.2.2 _ _ hz0
    obtain ⟨dk, _, _, kt, hd, _, _, _, _, hkt, _, hopen⟩ := hl.here
    obtain ⟨y2, g2, -⟩ := hW.alike.2.2 _ _ hkt
    refine ⟨_, hW.noted hd hopen (State.rightAt_cls hl), fun Q E d acts => ?_⟩
    rw [cx_row hc h0 (hW.classLinks hl) ho hv ⟨y0, g0⟩ ⟨y2, g2⟩, hW.alike.assignable, hb]
  induction pre with
  | nil =>
    intro S hW ho _
    obtain ⟨vm', w1, w2⟩ := one S x suf true hW ho hx hend
    exact ⟨vm', w1, fun Q E d acts => by rw [List.nil_append, w2, if_pos rfl]⟩
  | cons y r ih =>
    intro S hW ho hp
    obtain ⟨c1, c2⟩ := hp y List.mem_cons_self
    obtain ⟨vm', w1, w2⟩ := one S y (r ++ x :: suf) false hW ho c1 c2
    obtain ⟨vm2, v1, v2⟩ := ih (S.setVm vm') w1 ho (fun z hz => hp z (List.mem_cons_of_mem _ hz))
    refine ⟨vm2, v1, fun Q E d acts => ?_⟩
    rw [List.cons_append, w2, if_neg (by decide), v2]
    rfl
theorem cx_catch {p : Program} {l : Launch} {e : Env} {R : Room} {s : State} {m : MethodId} {args : Array Value} {below : List Frame} {meth : Method} {c : Code} {H : Heap} {locs : List Loc} {cells slots pc : Nat} {Q : State → Prop} {la : Array Slot} {rest : List Value} {own name E : String} {ce : Cell} {q : Addr} (hown : s.vm.findClass own = some m.cls) {pre suf : List ExceptionTableEntry} {x : ExceptionTableEntry} (hsplit : c.exceptionTable.toList = pre ++ x :: suf)
    (hpass : ∀ z ∈ pre, covers z pc = true ∧ z.catchType ≠ 0 ∧ ∃ nm : String, (Cond.classLink own z.catchType nm).before args s = true ∧ (Cond.not (.castable E nm)).before args s = true) (hx : covers x pc = true) (h0 : x.catchType ≠ 0) (hlink : (Cond.classLink own x.catchType name).before args s = true) (hcast : (Cond.castable E name).before args s = true) (hcell : H[q]? = some ce) (hv : ce.vm = .none) (hcl : s.vm.findClass E = some ce.cls)
    (kk : W p l e R s m args below meth c H locs cells slots Q (F0 m x.handlerPc la [.ref q])) : vx_W p l e R s m args below meth c H locs cells slots Q (F0 m pc la rest) q := by
  intro T hT X
  have hpl : e.platform.magicAccessors = ({} : Platform).magicAccessors := by rw [X.admits.platform]
  have hend : cx_is e.platform s m.cls ce.cls true x := by
    obtain ⟨c3, c4, g3, g4, g5⟩ := Cond.castable_spec hcast
    cases Option.some.inj (g3.symm.trans hcl)
    obtain ⟨c5, g6, g7⟩ := Cond.classLink_spec hown hlink e.platform hpl
    cases Option.some.inj (g4.symm.trans g6)
    exact ⟨h0, c4, g7, g5⟩
  have hps : ∀ z ∈ pre, covers z pc = true ∧ cx_is e.platform s m.cls ce.cls false z := by
    intro z hz
    obtain ⟨a1, a2, nm, a3, a4⟩ := hpass z hz
    obtain ⟨c5, g6, g7⟩ := Cond.classLink_spec hown a3 e.platform hpl
    have a5 := Cond.holds_not_iff.mp a4
    simp only [Cond.value, hcl, g6] at a5
    exact ⟨a1, a2, c5, g7, Option.some.inj a5⟩
  obtain ⟨vm', w1, w2⟩ := cx_go (e := e) (s := s) (f := F0 m pc la rest) (a := q) (o := ce) (suf := suf) hv (Vm.classAt_of_findClass hcl) hx hend pre ((T.setTop (F0 m pc la rest)).pushFrame (.throwing q)) X.warmed (by show T.heap[q]? = _; rw [hT]; exact hcell) hps
  obtain ⟨t, a1, b1⟩ := kk (T.setVm vm') hT (X.noted w1)
  refine ⟨t, ?_, b1⟩
  have hf : ∀ (Q : Handler → Pre) (E : CtlPost) (d : Bool) (acts : List Action), wp (findHandler (F0 m pc la rest) q) Q E e d acts ((T.setTop (F0 m pc la rest)).pushFrame (.throwing q)) ↔ Q (.found x.handlerPc) d acts (((T.setTop (F0 m pc la rest)).pushFrame (.throwing q)).setVm vm') := by
    intro Q E d acts
    rw [W.findHandler_eq (meth := meth) (code := c) X.method' X.code, hsplit]
    exact w2 Q E d acts
  have hh : At T m c below := X.here
  obtain ⟨hgo, hw⟩ := At.throwing (g := F0 m pc la rest) hh q
  have hstep : (stepThrowing e ((T.setTop (F0 m pc la rest)).pushFrame (.throwing q)) q (.java (F0 m pc la rest) :: T.frames.tail)).Is ((((T.setTop (F0 m pc la rest)).pushFrame (.throwing q)).setVm vm').setFrames (.java { F0 m pc la rest with pc := x.handlerPc, stack := [.ref q] } :: T.frames.tail)) [] := by
    simp only [stepThrowing, searchFrame, vmDo]
    generalize hr : Sem.go _ e false [] ((T.setTop (F0 m pc la rest)).pushFrame (.throwing q)) = res
    obtain ⟨as, rfl, ha⟩ := Sem.eq_ok_of hr (a := Handler.found x.handlerPc) (s' := ((T.setTop (F0 m pc la rest)).pushFrame (.throwing q)).setVm vm') (acts' := []) (by simp [hf _ _ _ _])
    exact ⟨rfl, ha⟩
  refine Steps.head hgo hw ?_
  rw [stepThread_throwing (frames_entered hh.top _), hstep.1]
  obtain ⟨g9, h9⟩ := X.frames_eq
  have e1 : ((T.setTop (F0 m pc la rest)).pushFrame (.throwing q)) = T.setFrames (.throwing q :: .java (F0 m pc la rest) :: below) := by
    rw [State.pushFrame, State.frames_setTop _ h9, State.setTop_of_frames _ h9, State.setFrames_setFrames]
  have e2 : ((T.setVm vm').setTop { F0 m pc la rest with pc := x.handlerPc, stack := [.ref q] }) = (T.setVm vm').setFrames (.java { F0 m pc la rest with pc := x.handlerPc, stack := [.ref q] } :: below) := State.setTop_of_frames (s := T.setVm vm') _ h9
  rw [e1, State.setFrames_setVm, State.setFrames_setFrames, h9, List.tail_cons]
  have a2 : Steps p.tables e below ((T.setVm vm').setTop { F0 m pc la rest with pc := x.handlerPc, stack := [.ref q] }) t := a1
  rw [e2] at a2
  exact a2
/-- strings and tables that a caller of throwing methods has -/
def GS (X : fm_X) : Prop := match X with
  | (_, _, _, s, _, _, _, _, _, _, _) => fm_S s
def GH (X : fm_X) (hh : List (Nat × Nat × Nat × Nat)) : Prop := match X with
  | (_, _, _, _, _, _, _, _, c, _, _) => GS X ∧ c.exceptionTable.toList = tableOf hh
/-- THE CONTRACT of a method with a table of its own, that returns -/
def fm_CtW (G : fm_G) (y : MethodName) (cy : ByteArray) (maxL : Nat) (ret : Option FieldType) (hh : List (Nat × Nat × Nat × Nat)) (fr lo mc ms : Nat) (av : List Value) (M : fm_M) (post : Option Value → fm_M → Prop) : Prop :=
  ∀ sz : Nat, Met G.1 y (Cond.codeWith y cy maxL ret hh :: fm_tbl) (fm_room fr lo mc ms) (va_Pc av (fm_PreX G M sz)) (fm_Qc G M sz post) mc ms (fm_A M sz)
theorem fm_headW {G : fm_G} {y : MethodName} {cy : ByteArray} {maxL fr lo mc ms : Nat} {ret : Option FieldType} {hh : List (Nat × Nat × Nat × Nat)} {av : List Value} {M : fm_M} {post : Option Value → fm_M → Prop} {ls0 : List (Nat × Value)} (hy : plainName y.cls = true) (hlen : (lg_sl av).length ≤ maxL) (hls : lv_args 0 av = ls0)
    (body : ∀ X : fm_X, GC G X y.cls cy maxL fr lo mc ms → GH X hh → (∀ (v : Option Value) (M1 : fm_M) (k n pc : Nat) (ls : List (Nat × Value)), fm_ret cy pc ret v → post v M1 → k ≤ mc → n ≤ ms → GW G X maxL M1 k n pc ls v.toList) → GW G X maxL M 0 0 0 ls0 []) : fm_CtW G y cy maxL ret hh fr lo mc ms av M post := by
  intro sz
  refine MetFree.of_bodyS (code := cy) (maxLocals := maxL) (ret := ret) hy ?_ ?_
  · intro args s m h hn
    obtain ⟨m9, meth, c, hn9, h1, h2, h3, h4, -, h5, h6, -⟩ := Cond.codeWith_spec (atoms_spec (ws := Cond.codeWith y cy maxL ret hh :: fm_tbl) h _ List.mem_cons_self)
    cases hn.symm.trans hn9
    exact ⟨meth, c, h1, h2, h3, h4, h5, h6⟩
  · intro p e s m args below meth c s₁ B hml hv _
    obtain ⟨rfl, ⟨hsz, hP, hK, hZ⟩, hs⟩ := hv
    have hts0 := atoms_spec (ws := Cond.codeWith y cy maxL ret hh :: fm_tbl) B.pre
    have hA : ∀ q : Nat, s.heap.size ≤ q → fm_A M sz q := fun q h => Or.inr (by rw [← hsz]; exact h)
    have hlocks := B.notSynchronized
    have hx := B.exec
    have hb := B.bytes
    have hr := B.returns
    have b0 := body (p, e, (headSpec (Cond.codeWith y cy maxL ret hh :: fm_tbl) (fm_room fr lo mc ms)).room, s, m, av.toArray, below, meth, c, MQ below (fm_Qc G M sz post) av.toArray s mc ms (fm_A M sz), fm_A M sz)
      ⟨hx, hb, findClass_of_methodNamed B.named, fun w hw => hts0 w (List.mem_cons_of_mem _ hw), hK, hA, hml, hlocks, ⟨rfl, rfl, rfl, rfl⟩, hZ⟩ ⟨hs, vx_table (x := y) B (hts0 _ List.mem_cons_self)⟩ ?_
    · have hh0 : s₁.heap = s.heap := by rw [B.state]; rfl
      have b1 : W p G.1 e (headSpec (Cond.codeWith y cy maxL ret hh :: fm_tbl) (fm_room fr lo mc ms)).room s m av.toArray below meth c s.heap [] 0 0 (MQ below (fm_Qc G M sz post) av.toArray s mc ms (fm_A M sz)) (entryFrame m av.toArray maxL) := by
        rw [lg_entry_eq]
        exact b0 s.heap [] _ hP va_S.rf (by rw [← hls]; exact lv_entry av hlen)
      obtain ⟨t, a1, o, b2, b3, b4⟩ := b1 s₁ hh0 (Stand.of_body B)
      exact ⟨t, o, a1, b2, b3, b4⟩
    · intro v M1 k n pc ls hret hpost hk hn H locs la hP1 hS hv
      have hq : ∀ t : State, t.heap = H → s.WarmedH t.vm → fm_Qc G M sz post av.toArray s (.returned v) t := fun t ht _ => ⟨⟨v, M1, rfl, hpost, by rw [ht]; exact hP1⟩, hS.F ht⟩
      refine W.widen hk hn ?_
      rcases hret with ⟨r1, rfl, r3⟩ | ⟨x, ty, r1, rfl, r2, r3⟩ | ⟨x, r1, rfl, r3⟩ | ⟨a, nn, r1, rfl, r3⟩
      · exact W.vret hx hb (by rw [hr]; exact r1) hq hS.2.2 r3
      · exact W.zret hx hb (by rw [hr]; exact r1) r2 hq hS.2.2 r3
      · exact W.lret hx hb (by rw [hr]; exact r1) hq hS.2.2 r3
      · exact W.aret hx hb (by rw [hr]; exact r1) (Or.inl ⟨nn, rfl⟩) (Or.inr ⟨a, rfl⟩) hq hS.2.2 r3
section CXR
variable {G : fm_G} {X : fm_X} {own : String} {cc : ByteArray} {nL fr lo mc ms : Nat} {M : fm_M} {kc ks pc : Nat} {ls : List (Nat × Value)} {st : List Value}
def fm_wW (own : String) (idx : Nat) (y : MethodName) (cy : ByteArray) (maxL : Nat) (ret : Option FieldType) (hh : List (Nat × Nat × Nat × Nat)) (n : Nat) : Prop :=
  (∀ w ∈ ([.methodLink own idx y, .static y, .initialized y.cls, .codeWith y cy maxL ret hh] : List Cond), w ∈ fm_tbl) ∧ fm_wd y n
theorem g_callW (C : GC G X own cc nL fr lo mc ms) (HS : GS X) {y : MethodName} {cy : ByteArray} {maxL fr' lo' mc' ms' idx n : Nat} {ret : Option FieldType} {hh : List (Nat × Nat × Nat × Nat)} {As rest : List Value} {post : Option Value → fm_M → Prop} (hd : decode cc pc = .ok (.invokestatic idx, 3)) (w : fm_wW own idx y cy maxL ret hh n) (K : fm_CtW G y cy maxL ret hh fr' lo' mc' ms' As M post) (hn : As.length = n) (hst : st = As.reverse ++ rest) (hcat : (rest.map fun v => v.category).sum ≤ 8) (hfr : fr' + 1 ≤ fr) (hlo : 8 + (maxL + 11) + lo' ≤ lo) (hc : kc + mc' ≤ mc) (hs : ks + ms' ≤ ms)
    (kk : ∀ (v : Option Value) (M1 : fm_M), post v M1 → GW G X nL M1 (kc + mc') (ks + ms') (pc + 3) ls (v.toList ++ rest)) : GW G X nL M kc ks pc ls st := by
  obtain ⟨p, e, R, s, m, args, below, meth, c, Q, A⟩ := X
  obtain ⟨hx, hb, hown, hts, hK, hA, hml, hlocks, hR, hZ⟩ := C
  intro H locs la hP hS hv
  subst hst
  have HS1 : fm_S s := HS
  refine fm_go (vx_runSW (As := As) (rest := rest) ⟨hx, hb, hml, hown, hts⟩ (K H.size) (vx_cwSW n hts (fm_good (fun w0 h0 => ?_)) rfl rfl rfl w.2 ⟨by rw [hR.1]; exact hfr, by rw [hR.2.1]; exact hlo⟩) ⟨fm_blindX, fun U hU hW => ⟨rfl, fm_pre hP hS hA hK hZ hU hW, HS1.warm hW⟩⟩ rfl hn hv.1 rfl (lv_room hcat) hd ⟨by rw [hR.2.2.1]; exact hc, by rw [hR.2.2.2]; exact hs⟩) hS (fm_sub hP hS hA) (fun v M1 H1 locs1 hp hP1 hS1 => kk v M1 hp H1 locs1 la hP1 hS1 hv)
  rcases List.mem_append.mp h0 with h0 | h0
  · exact w.1 w0 (List.mem_append_left [Cond.codeWith y cy maxL ret hh] h0)
  · rcases List.mem_cons.mp h0 with rfl | h0
    · exact w.1 _ (List.mem_append_right ([.methodLink own idx y, .static y, .initialized y.cls] : List Cond) (List.mem_singleton.mpr rfl))
    · exact h0
/-- rows of a table that don't take E, and the one that takes it -/
def cx_tk (own : String) (pc : Nat) (E : String) : List (Nat × Nat × Nat × Nat) → Nat → Prop
  | [], _ => False
  | x :: r, h => (x.1 ≤ pc ∧ pc < x.2.1) ∧ x.2.2.2 ≠ 0 ∧ ((x.2.2.1 = h ∧ Cond.classLink own x.2.2.2 E ∈ fm_tbl ∧ Cond.castable E E ∈ fm_tv) ∨ ((∃ nm, Cond.classLink own x.2.2.2 nm ∈ fm_tbl ∧ Cond.not (.castable E nm) ∈ fm_tv) ∧ cx_tk own pc E r h))
theorem cx_tk_sp {own : String} {pc h : Nat} {E : String} {hh : List (Nat × Nat × Nat × Nat)} (H : cx_tk own pc E hh h) : ∃ pre x suf, tableOf hh = pre ++ x :: suf ∧ x.handlerPc = h ∧ covers x pc = true ∧ x.catchType ≠ 0 ∧ Cond.classLink own x.catchType E ∈ fm_tbl ∧ Cond.castable E E ∈ fm_tv ∧ ∀ z ∈ pre, covers z pc = true ∧ z.catchType ≠ 0 ∧ ∃ nm, Cond.classLink own z.catchType nm ∈ fm_tbl ∧ Cond.not (.castable E nm) ∈ fm_tv := by
  induction hh with
  | nil => exact H.elim
  | cons q r ih =>
    obtain ⟨⟨c1, c2⟩, h0, hr⟩ := H
    have hc : covers ⟨q.1, q.2.1, q.2.2.1, q.2.2.2⟩ pc = true := by simp [covers, c1, c2]
    rcases hr with ⟨h1, h2, h3⟩ | ⟨h1, h2⟩
    · exact ⟨[], ⟨q.1, q.2.1, q.2.2.1, q.2.2.2⟩, tableOf r, rfl, h1, hc, h0, h2, h3, fun z hz => nomatch hz⟩
    · obtain ⟨pre, x, suf, e1, e2, e3, e4, e5, e6, e7⟩ := ih h2
      refine ⟨⟨q.1, q.2.1, q.2.2.1, q.2.2.2⟩ :: pre, x, suf, ?_, e2, e3, e4, e5, e6, fun z hz => ?_⟩
      · show _ :: tableOf r = _
        rw [e1]; rfl
      · rcases List.mem_cons.mp hz with rfl | hz
        · exact ⟨hc, h0, h1⟩
        · exact e7 z hz
/-- a call that throws, taken by this method's table -/
theorem g_catchV (C : GC G X own cc nL fr lo mc ms) {hh : List (Nat × Nat × Nat × Nat)} (HX : GH X hh) {y : MethodName} {cy : ByteArray} {maxL fr' lo' mc' ms' idx n ci b N h : Nat} {ret : Option FieldType} {As rest : List Value} {E : String} {post : fm_M → Prop} {fs : List Value} {T : u_T} (hd : decode cc pc = .ok (.invokevirtual idx, 3)) (w : fm_wV own idx y cy maxL ret n) (hci : vwCl[ci]? = some (y.cls, T, N)) (K : fm_CtX G y cy maxL ret fr' lo' mc' ms' (.ref b :: As) M E post) (hM : M b = some (fm_O ci fs)) (hn : As.length = n) (hst : st = As.reverse ++ .ref b :: rest) (hcat : (rest.map fun v => v.category).sum ≤ 8) (hfr : fr' + 1 ≤ fr) (hlo : 8 + (maxL + 11) + lo' ≤ lo) (hc : kc + mc' ≤ mc) (hs : ks + ms' ≤ ms) (tk : cx_tk own pc E hh h)
    (kk : ∀ (M1 : fm_M) (q : Nat), post M1 → GW G X nL M1 (kc + mc') (ks + ms') h ls [.ref q]) : GW G X nL M kc ks pc ls st := by
  obtain ⟨p, e, R, s, m, args, below, meth, c, Q, A⟩ := X
  obtain ⟨hx, hb, hown, hts, hK, hA, hml, hlocks, hR, hZ⟩ := C
  obtain ⟨hS0, htab⟩ := HX
  have hS0 : fm_S s := hS0
  intro H locs la hP hS hv
  subst hst
  obtain ⟨L0, f0, k0, h1, h2, h3, hm, he, hk⟩ := hP.at hM
  have hsub := fm_sub hP hS hA
  obtain ⟨pre, x, suf, t1, t2, t3, t4, t5, t6, t7⟩ := cx_tk_sp tk
  have hr := vx_runV (e := e) (below := below) (meth := meth) (locs := locs) (cells := kc) (slots := ks) (g := F0 m pc la (As.reverse ++ .ref b :: rest)) (As := As) (rest := rest) ⟨hx, hb, hml, hown, hts⟩ (K H.size) (cwV n hts (fm_good (fun w0 h0 => (by
    rcases List.mem_append.mp h0 with h0 | h0
    · exact w.1 w0 (List.mem_append_left [Cond.code y cy maxL ret] h0)
    · rcases List.mem_cons.mp h0 with rfl | h0
      · exact w.1 _ (List.mem_append_right ([.methodLink own idx y, .instanceMethod y, .selects y.cls y y, .initialized y.cls] : List Cond) (List.mem_singleton.mpr rfl))
      · exact h0))) rfl rfl rfl ⟨rfl, w.2⟩ ⟨by rw [hR.1]; exact hfr, by rw [hR.2.1]; exact hlo⟩) ⟨fm_blindX, va_recv hK.1 h2 (ci := ci) (q0 := k0) hci hk, fun U hU hW => ⟨rfl, fm_pre hP hS hA hK hZ hU hW, hS0.warm hW⟩⟩ rfl hn hv.1 rfl (lv_room hcat) hd ⟨by rw [hR.2.2.1]; exact hc, by rw [hR.2.2.2]; exact hs⟩
  intro T hT0 X0
  rcases hr T hT0 X0 with ⟨v, st₀, t, T', L, h0, X', hL, e1, e2, hq, st⟩ | ⟨q, st₀, t, T', L, E', ce, h0, X', hL, e1, e2, ⟨rfl, ⟨M1, hp1, hP1⟩, hz, hk⟩, hce, hcv, hcl, st⟩
  · exact hq.elim
  · rw [h0] at hz hk
    have hS1 : va_S A s.heap T'.heap (locs ++ L) := ⟨Nat.le_trans hS.1 (by rw [e1]; exact hz), fun q h1 h2 => by rw [e1, hk q (Nat.lt_of_lt_of_le h1 hS.1) (fun z => h2 (hsub q z))]; exact hS.2.1 q h1 h2, fun q hq => by
      rcases List.mem_append.mp hq with h | h
      · exact hS.2.2 q h
      · exact hsub _ (hL q h)⟩
    have hP2 : fm_P G.2.1 A M1 T'.heap := by rw [e1]; exact hP1.weak (fun a e h => hsub a (hP1.mem h))
    have b0 := kk M1 q hp1 T'.heap (locs ++ L) la hP2 hS1 hv
    rw [← t2] at b0
    obtain ⟨t2, a1, b1⟩ := cx_catch (rest := rest) (pc := pc) (E := E') (name := E') hown (htab.trans t1) (fun z hz => by
      obtain ⟨z1, z2, nm, z3, z4⟩ := t7 z hz
      exact ⟨z1, z2, nm, hts _ z3, hS0.2 _ z4 args⟩) t3 t4 (hts _ t5) (hS0.2 _ t6 args) (by rw [e1]; exact hce) hcv hcl b0 T' rfl X'
    exact ⟨t2, st.trans a1, b1⟩
end CXR
