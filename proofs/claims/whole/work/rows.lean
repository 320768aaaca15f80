section
-- ===== PART A: goes FIRST, ahead of the names: the tables' words, and 'selects' of the private methods out of them =====
/-- a private method of a class that the tables say can be made, by its rows of tables_1 -/
def lw_okq (q : MethodName × Nat) : Prop := (q.1.cls ≠ "java/lang/invoke/MethodHandle" ∧ q.1.cls ≠ "java/lang/invoke/VarHandle") ∧ Cond.instantiable q.1.cls q.2 ∈ tables_1 ∧ Cond.privateMethod q.1 ∈ tables_1 ∧ Cond.instanceMethod q.1 ∈ tables_1
theorem lw_p0 : lw_okq (⟨"LetterCounts", "rulesChanged", "()V"⟩, 7) := ⟨⟨by decide +kernel, by decide +kernel⟩, List.mem_of_getElem? (i := 20) (by decide +kernel), List.mem_of_getElem? (i := 130) (by decide +kernel), List.mem_of_getElem? (i := 131) (by decide +kernel)⟩
theorem lw_p1 : lw_okq (⟨"java/lang/Throwable", "fillInStackTrace", "(I)Ljava/lang/Throwable;"⟩, 6) := ⟨⟨by decide +kernel, by decide +kernel⟩, List.mem_of_getElem? (i := 186) (by decide +kernel), List.mem_of_getElem? (i := 184) (by decide +kernel), List.mem_of_getElem? (i := 185) (by decide +kernel)⟩
theorem lw_p2 : lw_okq (⟨"LetterCounts", "workOut", "()V"⟩, 7) := ⟨⟨by decide +kernel, by decide +kernel⟩, List.mem_of_getElem? (i := 20) (by decide +kernel), List.mem_of_getElem? (i := 307) (by decide +kernel), List.mem_of_getElem? (i := 308) (by decide +kernel)⟩
theorem lw_p3 : lw_okq (⟨"LetterCounts", "runRound", "(I)Z"⟩, 7) := ⟨⟨by decide +kernel, by decide +kernel⟩, List.mem_of_getElem? (i := 20) (by decide +kernel), List.mem_of_getElem? (i := 337) (by decide +kernel), List.mem_of_getElem? (i := 338) (by decide +kernel)⟩
theorem lw_p4 : lw_okq (⟨"LetterCounts$End", "takeNewest", "(I)V"⟩, 3) := ⟨⟨by decide +kernel, by decide +kernel⟩, List.mem_of_getElem? (i := 242) (by decide +kernel), List.mem_of_getElem? (i := 353) (by decide +kernel), List.mem_of_getElem? (i := 354) (by decide +kernel)⟩
theorem lw_p5 : lw_okq (⟨"LetterCounts$CountSet", "addMoved", "(LLetterCounts$CountSet;II)V"⟩, 1) := ⟨⟨by decide +kernel, by decide +kernel⟩, List.mem_of_getElem? (i := 69) (by decide +kernel), List.mem_of_getElem? (i := 382) (by decide +kernel), List.mem_of_getElem? (i := 383) (by decide +kernel)⟩
theorem lw_p6 : lw_okq (⟨"LetterCounts$Walk", "openTree", "(II)V"⟩, 7) := ⟨⟨by decide +kernel, by decide +kernel⟩, List.mem_of_getElem? (i := 32) (by decide +kernel), List.mem_of_getElem? (i := 489) (by decide +kernel), List.mem_of_getElem? (i := 490) (by decide +kernel)⟩
theorem lw_p7 : lw_okq (⟨"LetterCounts$Walk", "openBelow", "(LLetterCounts$Rule;)V"⟩, 7) := ⟨⟨by decide +kernel, by decide +kernel⟩, List.mem_of_getElem? (i := 32) (by decide +kernel), List.mem_of_getElem? (i := 500) (by decide +kernel), List.mem_of_getElem? (i := 501) (by decide +kernel)⟩
theorem lw_p8 : lw_okq (⟨"LetterCounts", "timesOnTheRight", "(I)I"⟩, 7) := ⟨⟨by decide +kernel, by decide +kernel⟩, List.mem_of_getElem? (i := 20) (by decide +kernel), List.mem_of_getElem? (i := 545) (by decide +kernel), List.mem_of_getElem? (i := 546) (by decide +kernel)⟩
theorem lw_p9 : lw_okq (⟨"LetterCounts", "timesOnTheLeft", "(I)I"⟩, 7) := ⟨⟨by decide +kernel, by decide +kernel⟩, List.mem_of_getElem? (i := 20) (by decide +kernel), List.mem_of_getElem? (i := 553) (by decide +kernel), List.mem_of_getElem? (i := 554) (by decide +kernel)⟩
theorem lw_p10 : lw_okq (⟨"LetterCounts", "reachedFrom", "(I)I"⟩, 7) := ⟨⟨by decide +kernel, by decide +kernel⟩, List.mem_of_getElem? (i := 20) (by decide +kernel), List.mem_of_getElem? (i := 557) (by decide +kernel), List.mem_of_getElem? (i := 558) (by decide +kernel)⟩
theorem lw_p11 : lw_okq (⟨"LetterCountsModel", "refuse", "(ZZZ)Z"⟩, 15) := ⟨⟨by decide +kernel, by decide +kernel⟩, List.mem_of_getElem? (i := 577) (by decide +kernel), List.mem_of_getElem? (i := 644) (by decide +kernel), List.mem_of_getElem? (i := 645) (by decide +kernel)⟩
theorem lw_p12 : lw_okq (⟨"LetterCountsModel", "reckon", "()V"⟩, 15) := ⟨⟨by decide +kernel, by decide +kernel⟩, List.mem_of_getElem? (i := 577) (by decide +kernel), List.mem_of_getElem? (i := 659) (by decide +kernel), List.mem_of_getElem? (i := 660) (by decide +kernel)⟩
theorem lw_p13 : lw_okq (⟨"LetterCountsModel", "climb", "(I)Z"⟩, 15) := ⟨⟨by decide +kernel, by decide +kernel⟩, List.mem_of_getElem? (i := 577) (by decide +kernel), List.mem_of_getElem? (i := 663) (by decide +kernel), List.mem_of_getElem? (i := 664) (by decide +kernel)⟩
theorem lw_p14 : lw_okq (⟨"LetterCountsModel", "isPlain", "(I)Z"⟩, 15) := ⟨⟨by decide +kernel, by decide +kernel⟩, List.mem_of_getElem? (i := 577) (by decide +kernel), List.mem_of_getElem? (i := 667) (by decide +kernel), List.mem_of_getElem? (i := 668) (by decide +kernel)⟩
theorem lw_p15 : lw_okq (⟨"LetterCountsModel", "reckonSums", "(II)V"⟩, 15) := ⟨⟨by decide +kernel, by decide +kernel⟩, List.mem_of_getElem? (i := 577) (by decide +kernel), List.mem_of_getElem? (i := 671) (by decide +kernel), List.mem_of_getElem? (i := 672) (by decide +kernel)⟩
def lw_privs_1 : List (MethodName × Nat) := [(⟨"LetterCounts", "rulesChanged", "()V"⟩, 7), (⟨"java/lang/Throwable", "fillInStackTrace", "(I)Ljava/lang/Throwable;"⟩, 6), (⟨"LetterCounts", "workOut", "()V"⟩, 7), (⟨"LetterCounts", "runRound", "(I)Z"⟩, 7), (⟨"LetterCounts$End", "takeNewest", "(I)V"⟩, 3), (⟨"LetterCounts$CountSet", "addMoved", "(LLetterCounts$CountSet;II)V"⟩, 1), (⟨"LetterCounts$Walk", "openTree", "(II)V"⟩, 7), (⟨"LetterCounts$Walk", "openBelow", "(LLetterCounts$Rule;)V"⟩, 7), (⟨"LetterCounts", "timesOnTheRight", "(I)I"⟩, 7), (⟨"LetterCounts", "timesOnTheLeft", "(I)I"⟩, 7), (⟨"LetterCounts", "reachedFrom", "(I)I"⟩, 7), (⟨"LetterCountsModel", "refuse", "(ZZZ)Z"⟩, 15), (⟨"LetterCountsModel", "reckon", "()V"⟩, 15), (⟨"LetterCountsModel", "climb", "(I)Z"⟩, 15), (⟨"LetterCountsModel", "isPlain", "(I)Z"⟩, 15), (⟨"LetterCountsModel", "reckonSums", "(II)V"⟩, 15)]
theorem lw_r1 : ∀ q ∈ lw_privs_1, lw_okq q := List.forall_mem_cons.mpr ⟨lw_p0, List.forall_mem_cons.mpr ⟨lw_p1, List.forall_mem_cons.mpr ⟨lw_p2, List.forall_mem_cons.mpr ⟨lw_p3, List.forall_mem_cons.mpr ⟨lw_p4, List.forall_mem_cons.mpr ⟨lw_p5, List.forall_mem_cons.mpr ⟨lw_p6, List.forall_mem_cons.mpr ⟨lw_p7, List.forall_mem_cons.mpr ⟨lw_p8, List.forall_mem_cons.mpr ⟨lw_p9, List.forall_mem_cons.mpr ⟨lw_p10, List.forall_mem_cons.mpr ⟨lw_p11, List.forall_mem_cons.mpr ⟨lw_p12, List.forall_mem_cons.mpr ⟨lw_p13, List.forall_mem_cons.mpr ⟨lw_p14, List.forall_mem_cons.mpr ⟨lw_p15, fun _ h => absurd h List.not_mem_nil⟩⟩⟩⟩⟩⟩⟩⟩⟩⟩⟩⟩⟩⟩⟩⟩
theorem lw_p16 : lw_okq (⟨"LetterCountsModel", "has", "(III)Z"⟩, 15) := ⟨⟨by decide +kernel, by decide +kernel⟩, List.mem_of_getElem? (i := 577) (by decide +kernel), List.mem_of_getElem? (i := 675) (by decide +kernel), List.mem_of_getElem? (i := 676) (by decide +kernel)⟩
theorem lw_p17 : lw_okq (⟨"LetterCountsModel", "shift", "(II)V"⟩, 15) := ⟨⟨by decide +kernel, by decide +kernel⟩, List.mem_of_getElem? (i := 577) (by decide +kernel), List.mem_of_getElem? (i := 679) (by decide +kernel), List.mem_of_getElem? (i := 680) (by decide +kernel)⟩
theorem lw_p18 : lw_okq (⟨"LetterCountsModel", "own", "(I)I"⟩, 15) := ⟨⟨by decide +kernel, by decide +kernel⟩, List.mem_of_getElem? (i := 577) (by decide +kernel), List.mem_of_getElem? (i := 686) (by decide +kernel), List.mem_of_getElem? (i := 687) (by decide +kernel)⟩
theorem lw_p19 : lw_okq (⟨"LetterCountsModel", "times", "(II)I"⟩, 15) := ⟨⟨by decide +kernel, by decide +kernel⟩, List.mem_of_getElem? (i := 577) (by decide +kernel), List.mem_of_getElem? (i := 690) (by decide +kernel), List.mem_of_getElem? (i := 691) (by decide +kernel)⟩
theorem lw_p20 : lw_okq (⟨"LetterCountsModel", "manyOf", "(I)I"⟩, 15) := ⟨⟨by decide +kernel, by decide +kernel⟩, List.mem_of_getElem? (i := 577) (by decide +kernel), List.mem_of_getElem? (i := 698) (by decide +kernel), List.mem_of_getElem? (i := 699) (by decide +kernel)⟩
theorem lw_p21 : lw_okq (⟨"LetterCountsModel", "write", "(II)Z"⟩, 15) := ⟨⟨by decide +kernel, by decide +kernel⟩, List.mem_of_getElem? (i := 577) (by decide +kernel), List.mem_of_getElem? (i := 710) (by decide +kernel), List.mem_of_getElem? (i := 711) (by decide +kernel)⟩
theorem lw_p22 : lw_okq (⟨"LetterCountsModel", "rootOf", "(II)I"⟩, 15) := ⟨⟨by decide +kernel, by decide +kernel⟩, List.mem_of_getElem? (i := 577) (by decide +kernel), List.mem_of_getElem? (i := 714) (by decide +kernel), List.mem_of_getElem? (i := 715) (by decide +kernel)⟩
theorem lw_p23 : lw_okq (⟨"LetterCountsModel", "spread", "(II)V"⟩, 15) := ⟨⟨by decide +kernel, by decide +kernel⟩, List.mem_of_getElem? (i := 577) (by decide +kernel), List.mem_of_getElem? (i := 721) (by decide +kernel), List.mem_of_getElem? (i := 722) (by decide +kernel)⟩
theorem lw_p24 : lw_okq (⟨"LetterCountsModel", "asLeft", "(I)I"⟩, 15) := ⟨⟨by decide +kernel, by decide +kernel⟩, List.mem_of_getElem? (i := 577) (by decide +kernel), List.mem_of_getElem? (i := 737) (by decide +kernel), List.mem_of_getElem? (i := 738) (by decide +kernel)⟩
theorem lw_p25 : lw_okq (⟨"LetterCountsModel", "stands", "(I)I"⟩, 15) := ⟨⟨by decide +kernel, by decide +kernel⟩, List.mem_of_getElem? (i := 577) (by decide +kernel), List.mem_of_getElem? (i := 741) (by decide +kernel), List.mem_of_getElem? (i := 742) (by decide +kernel)⟩
theorem lw_p26 : lw_okq (⟨"LetterCountsModel", "reached", "(I)I"⟩, 15) := ⟨⟨by decide +kernel, by decide +kernel⟩, List.mem_of_getElem? (i := 577) (by decide +kernel), List.mem_of_getElem? (i := 745) (by decide +kernel), List.mem_of_getElem? (i := 746) (by decide +kernel)⟩
def lw_privs_2 : List (MethodName × Nat) := [(⟨"LetterCountsModel", "has", "(III)Z"⟩, 15), (⟨"LetterCountsModel", "shift", "(II)V"⟩, 15), (⟨"LetterCountsModel", "own", "(I)I"⟩, 15), (⟨"LetterCountsModel", "times", "(II)I"⟩, 15), (⟨"LetterCountsModel", "manyOf", "(I)I"⟩, 15), (⟨"LetterCountsModel", "write", "(II)Z"⟩, 15), (⟨"LetterCountsModel", "rootOf", "(II)I"⟩, 15), (⟨"LetterCountsModel", "spread", "(II)V"⟩, 15), (⟨"LetterCountsModel", "asLeft", "(I)I"⟩, 15), (⟨"LetterCountsModel", "stands", "(I)I"⟩, 15), (⟨"LetterCountsModel", "reached", "(I)I"⟩, 15)]
theorem lw_r2 : ∀ q ∈ lw_privs_2, lw_okq q := List.forall_mem_cons.mpr ⟨lw_p16, List.forall_mem_cons.mpr ⟨lw_p17, List.forall_mem_cons.mpr ⟨lw_p18, List.forall_mem_cons.mpr ⟨lw_p19, List.forall_mem_cons.mpr ⟨lw_p20, List.forall_mem_cons.mpr ⟨lw_p21, List.forall_mem_cons.mpr ⟨lw_p22, List.forall_mem_cons.mpr ⟨lw_p23, List.forall_mem_cons.mpr ⟨lw_p24, List.forall_mem_cons.mpr ⟨lw_p25, List.forall_mem_cons.mpr ⟨lw_p26, fun _ h => absurd h List.not_mem_nil⟩⟩⟩⟩⟩⟩⟩⟩⟩⟩⟩
def lw_privs : List (MethodName × Nat) := lw_privs_1 ++ (lw_privs_2)
def lw_tbl : List Cond := k2_sels lw_privs ++ tables_1
theorem lw_privs_ok : ∀ q ∈ lw_privs, lw_okq q := by
  show ∀ q ∈ lw_privs_1 ++ (lw_privs_2), lw_okq q
  exact List.forall_mem_append.mpr ⟨lw_r1, lw_r2⟩
end
section
/-! ===== BEGIN words of one list among another's, by their places ===== -/
theorem goodIn_r {big : List Cond} (ws : List Cond) (ps : List Nat) (hp : ws = ps.filterMap (fun i => big[i]?)) (h : ws.all goodWord = true) : GoodIn big ws := by
  intro w hw
  have h1 := List.all_eq_true.mp h w hw
  rw [hp] at hw
  obtain ⟨i, -, hi⟩ := List.mem_filterMap.mp hw
  have hm : w ∈ big := by first | exact List.mem_of_getElem? hi | exact List.getElem?_mem hi
  exact ⟨hm, good_of_word h1⟩
theorem goodIn_app {big a b : List Cond} (ha : GoodIn big a) (hb : GoodIn big b) : GoodIn big (a ++ b) := fun w h => (List.mem_append.mp h).elim (ha w) (hb w)
theorem goodIn_ca {big a b : List Cond} {c : Cond} (ha : GoodIn big (c :: a)) (hb : GoodIn big b) : GoodIn big (c :: (a ++ b)) := fun w h => (List.mem_cons.mp h).elim (fun e => ha w (List.mem_cons.mpr (Or.inl e))) (fun h => (List.mem_append.mp h).elim (fun h => ha w (List.mem_cons.mpr (Or.inr h))) (hb w))
theorem goodIn_sub {big ws : List Cond} (hm : ∀ w ∈ ws, w ∈ big) (h : ws.all goodWord = true) : GoodIn big ws := fun w hw => ⟨hm w hw, good_of_word (List.all_eq_true.mp h w hw)⟩
/-! ===== END ===== -/

/-! ===== BEGIN exceptions that leave a method, and their catching by the caller (launches without stack traces) ===== -/
section VXA
/-! The laws vx_back, vx_callV, vx_callS, vx_callSW, vx_throw0, vx_throwS follow proofs of the library, with one case more: JvmDerived/Free/Laws.lean (Back.of_free), Shelf42/LK1.lean (callV, callS), Shelf/KitTraced.lean (throwNew0V, throwNewS). -/
/-- where a method has thrown q: the class by its name, the cell, what was written, the world -/
def vx_T (XC : String → State → State → Prop) (st : State) (q : Addr) (t : State) (mc ms : Nat) (free : Addr → Prop) : Prop :=
  ∃ (E : String) (ce : Cell) (L : List Loc), XC E st t ∧ t.heap[q]? = some ce ∧ ce.vm = .none ∧ st.vm.findClass E = some ce.cls ∧ st.WarmedH t.vm ∧ st.sameButNew ({ t with vm := st.vm } : State) L mc ms ∧ ∀ z ∈ L, free z.base
def vx_Q (Qc : Array Value → State → Outcome → State → Prop) (XC : String → State → State → Prop) (mc ms : Nat) (free : Addr → Prop) : Array Value → State → Outcome → State → Prop := fun a st o t =>
  (Qc a st o t ∧ ∃ L, FrameEnd st o t L mc ms ∧ ∀ q ∈ L, free q.base) ∨ ∃ q, o = .threw q ∧ vx_T XC st q t mc ms free
/-- a callee that returns or throws -/
def vx_Met (l : Launch) (y : MethodName) (ws : List Cond) (rm : Room) (Pc : Array Value → State → Prop) (Qc : Array Value → State → Outcome → State → Prop) (XC : String → State → State → Prop) (mc ms : Nat) (free : Addr → Prop) : Prop :=
  MetFree l y (headSpec ws rm) Pc (fun _ _ _ _ _ => True) (vx_Q Qc XC mc ms free)
def vx_Post (XC : String → State → State → Prop) (mc ms : Nat) (free : Addr → Prop) : Pt → Array Value → Addr → Pt → Prop := fun A a q B =>
  ∃ (g : JFrame) (mk : MethodId) (t : State) (L : List Loc) (E : String) (ce : Cell), B.U.heap = t.heap ∧ B.U.vm = t.vm ∧ XC E (A.U.calling g mk a) t ∧ t.heap[q]? = some ce ∧ ce.vm = .none ∧ A.U.vm.findClass E = some ce.cls ∧ B.locs = A.locs ++ L ∧ (∀ z ∈ L, free z.base) ∧ B.cells = A.cells + mc ∧ B.slots = A.slots + ms
def vx_Back (l : Launch) (R : Room) (p : Program) (e : Env) (below : List Frame) (s : State) (sargs : Array Value) (y : MethodName) (len W9 : Nat)
    (Pre : Pt → Array Value → Prop) (Post : Pt → Array Value → Option Value → Pt → Prop) (PostX : Pt → Array Value → Addr → Pt → Prop) : Prop :=
  ∀ (m : MethodId) (meth : Method) (c : Code) (A : Pt) (g : JFrame) (ig : Instr) (mk : MethodId) (a : Array Value),
    Stand p l e R s m sargs below meth c A.U A.locs A.cells A.slots → g.method = m → g.locals.size = c.maxLocals → decode c.code g.pc = .ok (ig, len) →
    2 * g.monitorRoom + (g.stack.map fun v => v.category).sum ≤ W9 → A.U.methodNamed? y = some mk → Pre A a →
    (∃ (v : Option Value) (B : Pt), Stand p l e R s m sargs below meth c B.U B.locs B.cells B.slots ∧ Post A a v B ∧
      Steps p.tables e below (doInvoke e (A.U.setTop g) [] mk a).1 (B.U.setTop { g with pc := g.pc + len, stack := v.toList ++ g.stack })) ∨
    (∃ (q : Addr) (B : Pt), Stand p l e R s m sargs below meth c B.U B.locs B.cells B.slots ∧ PostX A a q B ∧
      Steps p.tables e below (doInvoke e (A.U.setTop g) [] mk a).1 ((B.U.setTop g).pushFrame (.throwing q)))
section Payer
variable {l : Launch} {R : Room} {p : Program} {e : Env} {below : List Frame} {s : State} {sargs : Array Value} {y : MethodName} {len W9 : Nat}
theorem vx_back {ws : List Cond} {rm : Room} {Pc : Array Value → State → Prop} {Qc : Array Value → State → Outcome → State → Prop} {XC : String → State → State → Prop} {mc ms : Nat} {free : Addr → Prop} {bytes : ByteArray} {maxL : Nat} {ret : Option FieldType}
    (hM : vx_Met l y ws rm Pc Qc XC mc ms free) (hblind : FrameBlind Pc) (hrc : rm.cells = mc) (hrs : rm.slots = ms)
    (hframes : rm.frames + 1 ≤ R.frames) (hlocals : W9 + (maxL + 11) + rm.locals ≤ R.locals)
    (hws : ∀ w ∈ ws, ∀ a' U, s.WarmedH U.vm → w.before a' U = true) (hcode : Cond.code y bytes maxL ret ∈ ws) (hinit : ∀ a' U, s.WarmedH U.vm → (Cond.initialized y.cls).before a' U = true) :
    vx_Back l R p e below s sargs y len W9 (PreOf R mc ms Pc) (PostOf Qc mc ms free) (vx_Post XC mc ms free) := by
  intro m meth c A g ig mk a X hg hsize hdg hW hn hp
  have h1 : (headSpec ws rm).pre.before a A.U = true := atoms_intro fun w hw => hws w hw _ _ X.warmed
  have h2 : (Cond.code y bytes maxL ret).before a A.U = true := hws _ hcode _ _ X.warmed
  have h3 : (Cond.initialized y.cls).before a A.U = true := hinit _ _ X.warmed
  have h4 : A.cells + (headSpec ws rm).room.cells ≤ R.cells := by rw [show (headSpec ws rm).room.cells = mc from hrc]; exact hp.1
  have h5 : A.slots + (headSpec ws rm).room.slots ≤ R.slots := by rw [show (headSpec ws rm).room.slots = ms from hrs]; exact hp.2.1
  have hPc : Pc a (A.U.calling g mk a) := hblind _ _ _ _ hp.2.2
  obtain ⟨U, Ls, c0, s0⟩ := A
  dsimp only [Pt.U, Pt.locs, Pt.cells, Pt.slots] at h1 h2 h3 h4 h5 X hn hPc ⊢
  obtain ⟨methY, cY, hmY, hcY, -, hlY, -, -, -, -⟩ := Cond.code_spec hn h2
  obtain ⟨kY, hkY, -⟩ := className_of_methodNamed hn
  have hinitY : kY.init = .initialized := Cond.initialized_spec (findClass_of_methodNamed hn) hkY h3
  have h : At U g.method c below := by rw [hg]; exact X.here
  have hlocals9 : W9 + (maxL + 11) + (headSpec ws rm).room.locals ≤ R.locals := hlocals
  have happ : (headSpec ws rm).appliesLoose y e.platform (U.calling g mk a) = true :=
    Spec.appliesLoose_calling (g := g) h hdg hn hkY hinitY
      (X.room_calling (g := g) (R' := (headSpec ws rm).room) hsize hmY hcY hframes (by rw [hlY]; omega) h4 h5) h1
  obtain ⟨mid, hmid⟩ := h.above
  have hfr : (U.setTop g).frames = (.java g :: mid) ++ below := by rw [State.frames_setTop' g h.top, hmid]; rfl
  obtain ⟨o, s₂, hsteps, -, hend, hq⟩ := Steps.callFree hM p X.admits X.cas X.clock (acts := []) hfr happ hPc trivial
  have hq' : vx_Q Qc XC mc ms free a (U.calling g mk a) o s₂ := hq
  rw [State.frames_setTop' g h.top] at hend
  obtain ⟨g₀, hg0⟩ := Option.isSome_iff_exists.mp h.top
  obtain ⟨r, hr⟩ := State.topJava?_eq_some.mp hg0
  have hr' : (({ U with heap := s₂.heap, slotsUsed := s₂.slotsUsed } : State).setVm s₂.vm).frames = .java g₀ :: r := hr
  rcases hq' with ⟨hqc, L, hfe, hL⟩ | ⟨q, rfl, E, ce, L, hx, hce, hcv, hcl, hW₂, hsm, hL⟩
  · obtain ⟨⟨v, rfl⟩, hW₂, e2, q2, q3, q4, q5, q6⟩ := id hfe
    have e3 : s₂ = ({ (U.calling g mk a).setFrames s₂.frames with heap := s₂.heap, slotsUsed := s₂.slotsUsed } : State).setVm s₂.vm := by
      have : s₂ = ({ s₂ with vm := (U.calling g mk a).vm } : State).setVm s₂.vm := rfl
      rw [e2] at this
      exact this
    obtain ⟨c₂, i₂, len₂, hc₂, hd₂, hf₂⟩ := hend
    have hW' : U.WarmedH s₂.vm := hW₂
    have hcc : c₂ = c := by
      have h1 : s₂.code? g.method = U.code? g.method := by
        rw [State.code?_eq, State.code?_eq, hW'.alike.method?]
      exact Option.some.inj (hc₂.symm.trans (h1.trans h.code))
    subst hcc
    have hlen : len₂ = len := by rw [hdg] at hd₂; cases hd₂; rfl
    subst hlen
    have hs₂ : s₂ = (({ U with heap := s₂.heap, slotsUsed := s₂.slotsUsed } : State).setVm s₂.vm).setTop { g with pc := g.pc + len₂, stack := v.toList ++ g.stack } := by
      refine e3.trans ?_
      rw [hf₂, State.calling_eq h.top, State.setFrames_setFrames, State.setTop_of_frames _ hr', hr]
      rfl
    have hsame : U.sameButNew ({ U with heap := s₂.heap, slotsUsed := s₂.slotsUsed } : State) L mc ms := by
      refine ⟨?_, q2, q3, q4, q5, q6⟩
      obtain ⟨t, ht, -⟩ := State.frames_cons hr
      show ({ U with heap := s₂.heap, slotsUsed := s₂.slotsUsed } : State) = { U.setFrames U.frames with heap := s₂.heap, slotsUsed := s₂.slotsUsed }
      rw [State.setFrames_self ht]
    subst hg
    refine Or.inl ⟨v, ⟨(({ U with heap := s₂.heap, slotsUsed := s₂.slotsUsed } : State).setVm s₂.vm), Ls ++ L, c0 + mc, s0 + ms⟩,
      ⟨X.admits, X.cas, X.clock, X.frames, X.room, X.hears, X.method, X.code, (X.here.setHeapUsed s₂.heap s₂.slotsUsed).setVm hW'.alike, X.tail, State.WarmedH.trans X.warmed hW', X.limits, X.bytes, X.same.trans (hsame.setVm s.vm)⟩,
      ⟨g, mk, s₂, L, rfl, rfl, hqc, rfl, hL, rfl, rfl⟩, ?_⟩
    show Steps p.tables e below _ ((({ U with heap := s₂.heap, slotsUsed := s₂.slotsUsed } : State).setVm s₂.vm).setTop { g with pc := g.pc + len₂, stack := v.toList ++ g.stack })
    rw [← hs₂]
    exact hsteps
  · obtain ⟨e2, q2, q3, q4, q5, q6⟩ := id hsm
    have e3 : s₂ = ({ (U.calling g mk a).setFrames s₂.frames with heap := s₂.heap, slotsUsed := s₂.slotsUsed } : State).setVm s₂.vm := by
      have : s₂ = ({ s₂ with vm := (U.calling g mk a).vm } : State).setVm s₂.vm := rfl
      rw [e2] at this
      exact this
    have hf₂ : s₂.frames = .throwing q :: .java g :: U.frames.tail := hend
    have hW' : U.WarmedH s₂.vm := hW₂
    have hs₂ : s₂ = ((({ U with heap := s₂.heap, slotsUsed := s₂.slotsUsed } : State).setVm s₂.vm).setTop g).pushFrame (.throwing q) := by
      refine e3.trans ?_
      rw [hf₂, State.calling_eq h.top, State.setFrames_setFrames, State.pushFrame, State.frames_setTop _ hr', State.setTop_of_frames _ hr', State.setFrames_setFrames, hr]
      rfl
    have hsame : U.sameButNew ({ U with heap := s₂.heap, slotsUsed := s₂.slotsUsed } : State) L mc ms := by
      refine ⟨?_, q2, q3, q4, q5, q6⟩
      obtain ⟨t, ht, -⟩ := State.frames_cons hr
      show ({ U with heap := s₂.heap, slotsUsed := s₂.slotsUsed } : State) = { U.setFrames U.frames with heap := s₂.heap, slotsUsed := s₂.slotsUsed }
      rw [State.setFrames_self ht]
    subst hg
    refine Or.inr ⟨q, ⟨(({ U with heap := s₂.heap, slotsUsed := s₂.slotsUsed } : State).setVm s₂.vm), Ls ++ L, c0 + mc, s0 + ms⟩,
      ⟨X.admits, X.cas, X.clock, X.frames, X.room, X.hears, X.method, X.code, (X.here.setHeapUsed s₂.heap s₂.slotsUsed).setVm hW'.alike, X.tail, State.WarmedH.trans X.warmed hW', X.limits, X.bytes, X.same.trans (hsame.setVm s.vm)⟩,
      ⟨g, mk, s₂, L, E, ce, rfl, rfl, hx, hce, hcv, hcl, rfl, hL, rfl, rfl⟩, ?_⟩
    show Steps p.tables e below _ (((({ U with heap := s₂.heap, slotsUsed := s₂.slotsUsed } : State).setVm s₂.vm).setTop g).pushFrame (.throwing q))
    rw [← hs₂]
    exact hsteps
end Payer
section Calls
variable {p : Program} {l : Launch} {e : Env} {R : Room} {s : State} {m : MethodId} {args : Array Value} {below : List Frame} {meth : Method} {c : Code} {T : State} {locs : List Loc} {cells slots : Nat}
theorem vx_callV (X : Stand p l e R s m args below meth c T locs cells slots) (hexec : p.tables.exec = Jvm.exec) {own C : String} {index : Nat} {y : MethodName} {bytes : ByteArray} {maxL : Nat} {ret : Option FieldType}
    (hown : s.vm.findClass own = some m.cls) (hlink : (Cond.methodLink own index y).before args s = true) (hinst : (Cond.instanceMethod y).before args s = true) (hsel : (Cond.selects C y y).before args s = true)
    (hcode : (Cond.code y bytes maxL ret).before args s = true) (hy : y.cls ≠ "java/lang/invoke/MethodHandle" ∧ y.cls ≠ "java/lang/invoke/VarHandle")
    {W9 : Nat} {Pre : Pt → Array Value → Prop} {Post : Pt → Array Value → Option Value → Pt → Prop} {PostX : Pt → Array Value → Addr → Pt → Prop} (hK : vx_Back l R p e below s args y 3 W9 Pre Post PostX)
    {b : Addr} {cellB : Cell} (hcell : T.heap[b]? = some cellB) (hobj : cellB.vm.isStatics = false) (hcls : s.vm.findClass C = some cellB.cls)
    {g : JFrame} (hg : g.method = m) (hsize : g.locals.size = c.maxLocals) {argsL rest : List Value} (hlen : ∀ sig, parseMethodDescriptor y.desc = some sig → argsL.length = sig.parameters.length)
    (hstack : g.stack = argsL.reverse ++ .ref b :: rest) (hW : 2 * g.monitorRoom + (rest.map fun v => v.category).sum ≤ W9) (hdg : decode c.code g.pc = .ok (.invokevirtual index, 3))
    (hpre : ∀ vm₁, s.WarmedH vm₁ → Pre ⟨T.setVm vm₁, locs, cells, slots⟩ (Value.ref b :: argsL).toArray) :
    (∃ (v : Option Value) (vm₁ : Vm) (B : Pt), s.WarmedH vm₁ ∧ Stand p l e R s m args below meth c B.U B.locs B.cells B.slots ∧ Post ⟨T.setVm vm₁, locs, cells, slots⟩ (Value.ref b :: argsL).toArray v B ∧
      ∀ target, Steps p.tables e below (B.U.setTop { g with pc := g.pc + 3, stack := v.toList ++ rest }) target → Steps p.tables e below (T.setTop g) target) ∨
    (∃ (q : Addr) (vm₁ : Vm) (B : Pt), s.WarmedH vm₁ ∧ Stand p l e R s m args below meth c B.U B.locs B.cells B.slots ∧ PostX ⟨T.setVm vm₁, locs, cells, slots⟩ (Value.ref b :: argsL).toArray q B ∧
      Steps p.tables e below (T.setTop g) ((B.U.setTop { g with stack := rest }).pushFrame (.throwing q))) := by
  obtain ⟨mk, methM, hnamed, hmethM, hstM, habM⟩ := Cond.instanceMethod_spec hinst
  obtain ⟨methM', cM, hmethM', -, -, -, -, -, -, hsigM⟩ := Cond.code_spec hnamed hcode
  cases hmethM.symm.trans hmethM'
  obtain ⟨c2, r2, m2, q1, q2, q3, q4, kP, hkP, hkPi⟩ := Cond.selects_spec hsel
  cases hcls.symm.trans q1
  cases (State.methodFound?_of_named hnamed hy).symm.trans q2
  cases hnamed.symm.trans q3
  have hselP : selectMethod e.platform s.vm cellB.cls mk = .method mk := by rw [Launch.admits_selectMethod X.admits]; exact q4
  obtain ⟨vm₁, X₁, hstep₁⟩ := X.invokevirtual hexec hown hlink hnamed hmethM hstM hkP hkPi hy (a := b) (cell := cellB) hcell
    (fun z h => by rw [h] at hobj; cases hobj) hselP hmethM habM hkP hkPi (g := g) hg (argsL := argsL) (rest := rest) (hlen _ hsigM) hstack hdg
  rcases hK m meth c ⟨T.setVm vm₁, locs, cells, slots⟩ { g with stack := rest } (.invokevirtual index) mk (Value.ref b :: argsL).toArray X₁ hg hsize hdg hW (X₁.named hnamed) (hpre vm₁ X₁.warmed) with ⟨v, B, X', hpost, hsteps⟩ | ⟨q, B, X', hpost, hsteps⟩
  · exact Or.inl ⟨v, vm₁, B, X₁.warmed, X', hpost, fun target h => hstep₁ _ fun acts => by rw [doInvoke_state]; exact hsteps.trans h⟩
  · exact Or.inr ⟨q, vm₁, B, X₁.warmed, X', hpost, hstep₁ _ fun acts => by rw [doInvoke_state]; exact hsteps⟩
theorem vx_callS (X : Stand p l e R s m args below meth c T locs cells slots) (hexec : p.tables.exec = Jvm.exec) {own : String} {index : Nat} {y : MethodName} {bytes : ByteArray} {maxL : Nat} {ret : Option FieldType}
    (hown : s.vm.findClass own = some m.cls) (hlink : (Cond.methodLink own index y).before args s = true) (hstat : (Cond.static y).before args s = true) (hinit : (Cond.initialized y.cls).before args s = true)
    (hcode : (Cond.code y bytes maxL ret).before args s = true) (hy : y.cls ≠ "java/lang/invoke/MethodHandle" ∧ y.cls ≠ "java/lang/invoke/VarHandle")
    {W9 : Nat} {Pre : Pt → Array Value → Prop} {Post : Pt → Array Value → Option Value → Pt → Prop} {PostX : Pt → Array Value → Addr → Pt → Prop} (hK : vx_Back l R p e below s args y 3 W9 Pre Post PostX)
    {g : JFrame} (hg : g.method = m) (hsize : g.locals.size = c.maxLocals) {argsL rest : List Value} (hlen : ∀ sig, parseMethodDescriptor y.desc = some sig → argsL.length = sig.parameters.length)
    (hstack : g.stack = argsL.reverse ++ rest) (hW : 2 * g.monitorRoom + (rest.map fun v => v.category).sum ≤ W9) (hdg : decode c.code g.pc = .ok (.invokestatic index, 3))
    (hpre : ∀ vm₁, s.WarmedH vm₁ → Pre ⟨T.setVm vm₁, locs, cells, slots⟩ argsL.toArray) :
    (∃ (v : Option Value) (vm₁ : Vm) (B : Pt), s.WarmedH vm₁ ∧ Stand p l e R s m args below meth c B.U B.locs B.cells B.slots ∧ Post ⟨T.setVm vm₁, locs, cells, slots⟩ argsL.toArray v B ∧
      ∀ target, Steps p.tables e below (B.U.setTop { g with pc := g.pc + 3, stack := v.toList ++ rest }) target → Steps p.tables e below (T.setTop g) target) ∨
    (∃ (q : Addr) (vm₁ : Vm) (B : Pt), s.WarmedH vm₁ ∧ Stand p l e R s m args below meth c B.U B.locs B.cells B.slots ∧ PostX ⟨T.setVm vm₁, locs, cells, slots⟩ argsL.toArray q B ∧
      Steps p.tables e below (T.setTop g) ((B.U.setTop { g with stack := rest }).pushFrame (.throwing q))) := by
  obtain ⟨mk, hnamed⟩ := Cond.code_named hcode
  obtain ⟨methM, cM, hmethM, -, -, -, -, -, -, hsigM⟩ := Cond.code_spec hnamed hcode
  have hstatic : methM.isStatic = true := Cond.static_spec hnamed hmethM hstat
  obtain ⟨kP, hkP, -⟩ := className_of_methodNamed hnamed
  have hinitP : kP.init = .initialized := Cond.initialized_spec (findClass_of_methodNamed hnamed) hkP hinit
  obtain ⟨vm₁, X₁, hstep₁⟩ := X.invokestatic hexec hown hlink hnamed hmethM hstatic hkP hinitP hy (g := g) hg (argsL := argsL) (rest := rest) (hlen _ hsigM) hstack hdg
  rcases hK m meth c ⟨T.setVm vm₁, locs, cells, slots⟩ { g with stack := rest } (.invokestatic index) mk argsL.toArray X₁ hg hsize hdg hW (X₁.named hnamed) (hpre vm₁ X₁.warmed) with ⟨v, B, X', hpost, hsteps⟩ | ⟨q, B, X', hpost, hsteps⟩
  · exact Or.inl ⟨v, vm₁, B, X₁.warmed, X', hpost, fun target h => hstep₁ _ fun acts => by rw [doInvoke_state]; exact hsteps.trans h⟩
  · exact Or.inr ⟨q, vm₁, B, X₁.warmed, X', hpost, hstep₁ _ fun acts => by rw [doInvoke_state]; exact hsteps⟩
end Calls
theorem vx_cls {s : State} {T : State} {vm₁ : Vm} {E : String} {k : ClassId} (hW : s.WarmedH vm₁) (h : (T.setVm vm₁).vm.findClass E = some k) : s.vm.findClass E = some k := by
  have h1 : vm₁.findClass E = some k := h
  rw [hW.alike.findClass] at h1
  exact h1
/-- the method's frame g, with q thrown over it -/
def vx_W (p : Program) (l : Launch) (e : Env) (R : Room) (s : State) (m : MethodId) (args : Array Value) (below : List Frame) (meth : Method) (c : Code) (H : Heap) (locs : List Loc) (cells slots : Nat) (Q : State → Prop) (g : JFrame) (q : Addr) : Prop :=
  ∀ T : State, T.heap = H → Stand p l e R s m args below meth c T locs cells slots → ∃ t, Steps p.tables e below ((T.setTop g).pushFrame (.throwing q)) t ∧ Q t
def vx_Run (p : Program) (l : Launch) (e : Env) (R : Room) (s : State) (m : MethodId) (args : Array Value) (below : List Frame) (meth : Method) (c : Code) (H : Heap) (locs : List Loc) (cells slots mc ms : Nat) (g : JFrame) (rest : List Value) (Qa : State → Outcome → State → Prop) (XC : String → State → State → Prop) (free : Addr → Prop) : Prop :=
  ∀ T : State, T.heap = H → Stand p l e R s m args below meth c T locs cells slots →
    (∃ (v : Option Value) (st₀ t T' : State) (L : List Loc), st₀.heap = H ∧ Stand p l e R s m args below meth c T' (locs ++ L) (cells + mc) (slots + ms) ∧ (∀ q ∈ L, free q.base) ∧ T'.heap = t.heap ∧ T'.vm = t.vm ∧ Qa st₀ (.returned v) t ∧
      Goes p e below T g T' { g with pc := g.pc + 3, stack := v.toList ++ rest }) ∨
    (∃ (q : Addr) (st₀ t T' : State) (L : List Loc) (E : String) (ce : Cell), st₀.heap = H ∧ Stand p l e R s m args below meth c T' (locs ++ L) (cells + mc) (slots + ms) ∧ (∀ z ∈ L, free z.base) ∧ T'.heap = t.heap ∧ T'.vm = t.vm ∧ XC E st₀ t ∧ t.heap[q]? = some ce ∧ ce.vm = .none ∧ s.vm.findClass E = some ce.cls ∧
      Steps p.tables e below (T.setTop g) ((T'.setTop { g with stack := rest }).pushFrame (.throwing q)))
def vx_X {S : Type} (px : S → Prop) (B : String → S → State → Prop) (A : Nat → Prop) : String → State → State → Prop := fun E st t => ∃ u : S, px u ∧ B E u t ∧ va_F A st t
section Runs
variable {p : Program} {l : Launch} {e : Env} {R : Room} {s : State} {m : MethodId} {args : Array Value} {below : List Frame} {meth : Method} {c : Code} {H : Heap} {locs : List Loc} {cells slots : Nat}
variable {y : MethodName} {bytes cc : ByteArray} {maxL nL mc ms n index : Nat} {ret : Option FieldType} {ws : List Cond} {rm : Room} {Pc : Array Value → State → Prop} {Qc : Array Value → State → Outcome → State → Prop} {XC : String → State → State → Prop} {free : Addr → Prop} {Ts : List Cond} {own C : String} {b : Addr} {As rest : List Value} {g : JFrame}
theorem vx_callBack (cb : CallB R s args own index y bytes maxL ret ws rm mc ms n) (hM : vx_Met l y ws rm Pc Qc XC mc ms free) (hbl : FrameBlind Pc) : vx_Back l R p e below s args y 3 8 (PreOf R mc ms Pc) (PostOf Qc mc ms free) (vx_Post XC mc ms free) := by
  obtain ⟨hrc, hrs, hfr, hlo, hws, hcw, -, hini, -⟩ := cb
  exact vx_back (bytes := bytes) (maxL := maxL) (ret := ret) hM hbl hrc hrs hfr hlo hws hcw (fun a' U hW => word_at hW (Or.inl (by first | rfl | simp [Cond.onTables, Cond.keeps, Cond.steady])) hini)
theorem vx_runV (S : CallFix p m c cc nL s args Ts own) (hM : vx_Met l y ws rm Pc Qc XC mc ms free) (cw : CallW R s args own C index y bytes maxL ret ws rm mc ms n) (hp : PreV s H C b Pc As)
    (hg : g.method = m) (hn : As.length = n) (hsize : g.locals.size = nL) (hstack : g.stack = As.reverse ++ .ref b :: rest) (hW : 2 * g.monitorRoom + (rest.map fun v => v.category).sum ≤ 8) (hdg : decode cc g.pc = .ok (.invokevirtual index, 3)) (hf : cells + mc ≤ R.cells ∧ slots + ms ≤ R.slots) :
    vx_Run p l e R s m args below meth c H locs cells slots mc ms g rest (Qc (Value.ref b :: As).toArray) XC free := by
  have hK : vx_Back l R p e below s args y 3 8 (PreOf R mc ms Pc) (PostOf Qc mc ms free) (vx_Post XC mc ms free) := vx_callBack cw.1 hM hp.1
  obtain ⟨⟨-, -, -, -, -, -, hcode, -, hy, hlen, hl⟩, hin, hse⟩ := cw
  obtain ⟨hx, hb, hml, ho, -⟩ := S
  obtain ⟨-, ⟨cellB, hcB, hoB, hclB⟩, hPc⟩ := hp
  intro T hT X
  rcases vx_callV X hx (C := C) (bytes := bytes) (maxL := maxL) (ret := ret) ho hl hin hse hcode hy hK (by rw [hT]; exact hcB) hoB hclB hg (hsize.trans hml.symm) (argsL := As) (rest := rest) (fun sig h => hn.trans (hlen sig h)) hstack hW (by rw [hb]; exact hdg)
    (fun vm₁ hW₁ => ⟨hf.1, hf.2, hPc (T.setVm vm₁) hT hW₁⟩) with ⟨v, vm₁, ⟨U', l2, c2, s2⟩, hW₁, X', ⟨g', mk, t, L, e1, e2, hq, h1, hL, h2, h3⟩, st⟩ | ⟨q, vm₁, ⟨U', l2, c2, s2⟩, hW₁, X', ⟨g', mk, t, L, E, ce, e1, e2, hq, hce, hcv, hcl, h1, hL, h2, h3⟩, st⟩
  · dsimp only [Pt.U, Pt.locs, Pt.cells, Pt.slots] at X' e1 e2 h1 h2 h3 st
    subst h1; subst h2; subst h3
    exact Or.inl ⟨v, (T.setVm vm₁).calling g' mk (Value.ref b :: As).toArray, t, U', L, hT, X', hL, e1, e2, hq, st⟩
  · dsimp only [Pt.U, Pt.locs, Pt.cells, Pt.slots] at X' e1 e2 h1 h2 h3 st hcl
    subst h1; subst h2; subst h3
    exact Or.inr ⟨q, (T.setVm vm₁).calling g' mk (Value.ref b :: As).toArray, t, U', L, E, ce, hT, X', hL, e1, e2, hq, hce, hcv, vx_cls hW₁ hcl, st⟩
theorem vx_runS (S : CallFix p m c cc nL s args Ts own) (hM : vx_Met l y ws rm Pc Qc XC mc ms free) (cw : CallB R s args own index y bytes maxL ret ws rm mc ms n ∧ (Cond.static y).before args s = true) (hp : PreS s H Pc As)
    (hg : g.method = m) (hn : As.length = n) (hsize : g.locals.size = nL) (hstack : g.stack = As.reverse ++ rest) (hW : 2 * g.monitorRoom + (rest.map fun v => v.category).sum ≤ 8) (hdg : decode cc g.pc = .ok (.invokestatic index, 3)) (hf : cells + mc ≤ R.cells ∧ slots + ms ≤ R.slots) :
    vx_Run p l e R s m args below meth c H locs cells slots mc ms g rest (Qc As.toArray) XC free := by
  have hK : vx_Back l R p e below s args y 3 8 (PreOf R mc ms Pc) (PostOf Qc mc ms free) (vx_Post XC mc ms free) := vx_callBack cw.1 hM hp.1
  obtain ⟨⟨-, -, -, -, -, -, hcode, hini, hy, hlen, hl⟩, hstt⟩ := cw
  obtain ⟨hx, hb, hml, ho, -⟩ := S
  intro T hT X
  rcases vx_callS X hx (bytes := bytes) (maxL := maxL) (ret := ret) ho hl hstt hini hcode hy hK hg (hsize.trans hml.symm) (argsL := As) (rest := rest) (fun sig h => hn.trans (hlen sig h)) hstack hW (by rw [hb]; exact hdg)
    (fun vm₁ hW₁ => ⟨hf.1, hf.2, hp.2 (T.setVm vm₁) hT hW₁⟩) with ⟨v, vm₁, ⟨U', l2, c2, s2⟩, hW₁, X', ⟨g', mk, t, L, e1, e2, hq, h1, hL, h2, h3⟩, st⟩ | ⟨q, vm₁, ⟨U', l2, c2, s2⟩, hW₁, X', ⟨g', mk, t, L, E, ce, e1, e2, hq, hce, hcv, hcl, h1, hL, h2, h3⟩, st⟩
  · dsimp only [Pt.U, Pt.locs, Pt.cells, Pt.slots] at X' e1 e2 h1 h2 h3 st
    subst h1; subst h2; subst h3
    exact Or.inl ⟨v, (T.setVm vm₁).calling g' mk As.toArray, t, U', L, hT, X', hL, e1, e2, hq, st⟩
  · dsimp only [Pt.U, Pt.locs, Pt.cells, Pt.slots] at X' e1 e2 h1 h2 h3 st hcl
    subst h1; subst h2; subst h3
    exact Or.inr ⟨q, (T.setVm vm₁).calling g' mk As.toArray, t, U', L, E, ce, hT, X', hL, e1, e2, hq, hce, hcv, vx_cls hW₁ hcl, st⟩
end Runs
section Rows
variable {p : Program} {l : Launch} {e : Env} {R : Room} {s : State} {m : MethodId} {args : Array Value} {below : List Frame} {meth : Method} {c : Code} {H : Heap} {locs : List Loc} {cells slots : Nat} {Q : State → Prop}
variable {mc ms : Nat} {free : Addr → Prop} {A0 A1 : Nat → Prop} {H0 : Heap} {a : Array Value} {pc : Nat} {ls : Array Slot} {st0 rest : List Value}
theorem vx_keep {st₀ t T' : State} {L : List Loc} (h0 : st₀.heap = H) (e1 : T'.heap = t.heap) (hS : va_S A0 H0 H locs) (hA : ∀ q, q < H.size → A1 q → A0 q) (hf : ∀ q, free q → A0 q) (hL : ∀ q ∈ L, free q.base) (hF : va_F A1 st₀ t) :
    H.size ≤ T'.heap.size ∧ (∀ q : Nat, q < H.size → ¬ A1 q → T'.heap[q]? = H[q]?) ∧ va_S A0 H0 T'.heap (locs ++ L) := by
  obtain ⟨hz, hk⟩ := hF
  rw [h0] at hz hk
  exact ⟨by rw [e1]; exact hz, fun q h1 h2 => by rw [e1]; exact hk q h1 h2,
    ⟨Nat.le_trans hS.1 (by rw [e1]; exact hz), fun q h1 h2 => by rw [e1, hk q (Nat.lt_of_lt_of_le h1 hS.1) (fun z => h2 (hA q (Nat.lt_of_lt_of_le h1 hS.1) z))]; exact hS.2.1 q h1 h2, fun q hq => by
      rcases List.mem_append.mp hq with h | h
      · exact hS.2.2 q h
      · exact hf _ (hL q h)⟩⟩
theorem vx_calli {S SX : Type} {post : Int32 → S → Prop} {px : SX → Prop} {B : S → State → Prop} {BX : String → SX → State → Prop} {AX : Nat → Prop} (hr : vx_Run p l e R s m args below meth c H locs cells slots mc ms (F0 m pc ls st0) rest (va_Qi post B A1 a) (vx_X px BX AX) free) (hS : va_S A0 H0 H locs) (hA : ∀ q, q < H.size → A1 q → A0 q) (hf : ∀ q, free q → A0 q) (hAX : ∀ q, q < H.size → AX q → A0 q)
    (kx : ∀ (E : String) (ce : Cell) (q9 : Addr) (u : SX) (t : State) (H1 : Heap) (locs1 : List Loc), t.heap = H1 → s.vm.Alike t.vm → px u → BX E u t → H.size ≤ H1.size → (∀ q : Nat, q < H.size → ¬ AX q → H1[q]? = H[q]?) → va_S A0 H0 H1 locs1 → H1[q9]? = some ce → ce.vm = .none → s.vm.findClass E = some ce.cls → vx_W p l e R s m args below meth c H1 locs1 (cells + mc) (slots + ms) Q (F0 m pc ls rest) q9)
    (kk : ∀ (r : Int32) (u : S) (t : State) (H1 : Heap) (locs1 : List Loc), t.heap = H1 → s.vm.Alike t.vm → post r u → B u t → H.size ≤ H1.size → (∀ q : Nat, q < H.size → ¬ A1 q → H1[q]? = H[q]?) → va_S A0 H0 H1 locs1 → W p l e R s m args below meth c H1 locs1 (cells + mc) (slots + ms) Q (F0 m (pc + 3) ls (.int r :: rest))) : W p l e R s m args below meth c H locs cells slots Q (F0 m pc ls st0) := by
  intro T hT X
  rcases hr T hT X with ⟨v, st₀, t, T', L, h0, X', hL, e1, e2, ⟨⟨r, u, hv, hp, hb⟩, hF⟩, st⟩ | ⟨q, st₀, t, T', L, E, ce, h0, X', hL, e1, e2, ⟨u, hp, hb, hF⟩, hce, hcv, hcl, st⟩
  · cases hv
    obtain ⟨k1, k2, k3⟩ := vx_keep h0 e1 hS hA hf hL hF
    obtain ⟨t2, a1, b1⟩ := kk r u t T'.heap (locs ++ L) e1.symm (by rw [← e2]; exact X'.warmed.alike) hp hb k1 k2 k3 T' rfl X'
    exact ⟨t2, st t2 a1, b1⟩
  · obtain ⟨k1, k2, k3⟩ := vx_keep h0 e1 hS hAX hf hL hF
    obtain ⟨t2, a1, b1⟩ := kx E ce q u t T'.heap (locs ++ L) e1.symm (by rw [← e2]; exact X'.warmed.alike) hp hb k1 k2 k3 (by rw [e1]; exact hce) hcv hcl T' rfl X'
    exact ⟨t2, st.trans a1, b1⟩
theorem vx_calll {S SX : Type} {post : Int64 → S → Prop} {px : SX → Prop} {B : S → State → Prop} {BX : String → SX → State → Prop} {AX : Nat → Prop} (hr : vx_Run p l e R s m args below meth c H locs cells slots mc ms (F0 m pc ls st0) rest (va_Ql post B A1 a) (vx_X px BX AX) free) (hS : va_S A0 H0 H locs) (hA : ∀ q, q < H.size → A1 q → A0 q) (hf : ∀ q, free q → A0 q) (hAX : ∀ q, q < H.size → AX q → A0 q)
    (kx : ∀ (E : String) (ce : Cell) (q9 : Addr) (u : SX) (t : State) (H1 : Heap) (locs1 : List Loc), t.heap = H1 → s.vm.Alike t.vm → px u → BX E u t → H.size ≤ H1.size → (∀ q : Nat, q < H.size → ¬ AX q → H1[q]? = H[q]?) → va_S A0 H0 H1 locs1 → H1[q9]? = some ce → ce.vm = .none → s.vm.findClass E = some ce.cls → vx_W p l e R s m args below meth c H1 locs1 (cells + mc) (slots + ms) Q (F0 m pc ls rest) q9)
    (kk : ∀ (r : Int64) (u : S) (t : State) (H1 : Heap) (locs1 : List Loc), t.heap = H1 → s.vm.Alike t.vm → post r u → B u t → H.size ≤ H1.size → (∀ q : Nat, q < H.size → ¬ A1 q → H1[q]? = H[q]?) → va_S A0 H0 H1 locs1 → W p l e R s m args below meth c H1 locs1 (cells + mc) (slots + ms) Q (F0 m (pc + 3) ls (.long r :: rest))) : W p l e R s m args below meth c H locs cells slots Q (F0 m pc ls st0) := by
  intro T hT X
  rcases hr T hT X with ⟨v, st₀, t, T', L, h0, X', hL, e1, e2, ⟨⟨r, u, hv, hp, hb⟩, hF⟩, st⟩ | ⟨q, st₀, t, T', L, E, ce, h0, X', hL, e1, e2, ⟨u, hp, hb, hF⟩, hce, hcv, hcl, st⟩
  · cases hv
    obtain ⟨k1, k2, k3⟩ := vx_keep h0 e1 hS hA hf hL hF
    obtain ⟨t2, a1, b1⟩ := kk r u t T'.heap (locs ++ L) e1.symm (by rw [← e2]; exact X'.warmed.alike) hp hb k1 k2 k3 T' rfl X'
    exact ⟨t2, st t2 a1, b1⟩
  · obtain ⟨k1, k2, k3⟩ := vx_keep h0 e1 hS hAX hf hL hF
    obtain ⟨t2, a1, b1⟩ := kx E ce q u t T'.heap (locs ++ L) e1.symm (by rw [← e2]; exact X'.warmed.alike) hp hb k1 k2 k3 (by rw [e1]; exact hce) hcv hcl T' rfl X'
    exact ⟨t2, st.trans a1, b1⟩
theorem vx_callf {S SX : Type} {post : UInt32 → S → Prop} {px : SX → Prop} {B : S → State → Prop} {BX : String → SX → State → Prop} {AX : Nat → Prop} (hr : vx_Run p l e R s m args below meth c H locs cells slots mc ms (F0 m pc ls st0) rest (va_Qf post B A1 a) (vx_X px BX AX) free) (hS : va_S A0 H0 H locs) (hA : ∀ q, q < H.size → A1 q → A0 q) (hf : ∀ q, free q → A0 q) (hAX : ∀ q, q < H.size → AX q → A0 q)
    (kx : ∀ (E : String) (ce : Cell) (q9 : Addr) (u : SX) (t : State) (H1 : Heap) (locs1 : List Loc), t.heap = H1 → s.vm.Alike t.vm → px u → BX E u t → H.size ≤ H1.size → (∀ q : Nat, q < H.size → ¬ AX q → H1[q]? = H[q]?) → va_S A0 H0 H1 locs1 → H1[q9]? = some ce → ce.vm = .none → s.vm.findClass E = some ce.cls → vx_W p l e R s m args below meth c H1 locs1 (cells + mc) (slots + ms) Q (F0 m pc ls rest) q9)
    (kk : ∀ (r : UInt32) (u : S) (t : State) (H1 : Heap) (locs1 : List Loc), t.heap = H1 → s.vm.Alike t.vm → post r u → B u t → H.size ≤ H1.size → (∀ q : Nat, q < H.size → ¬ A1 q → H1[q]? = H[q]?) → va_S A0 H0 H1 locs1 → W p l e R s m args below meth c H1 locs1 (cells + mc) (slots + ms) Q (F0 m (pc + 3) ls (.float r :: rest))) : W p l e R s m args below meth c H locs cells slots Q (F0 m pc ls st0) := by
  intro T hT X
  rcases hr T hT X with ⟨v, st₀, t, T', L, h0, X', hL, e1, e2, ⟨⟨r, u, hv, hp, hb⟩, hF⟩, st⟩ | ⟨q, st₀, t, T', L, E, ce, h0, X', hL, e1, e2, ⟨u, hp, hb, hF⟩, hce, hcv, hcl, st⟩
  · cases hv
    obtain ⟨k1, k2, k3⟩ := vx_keep h0 e1 hS hA hf hL hF
    obtain ⟨t2, a1, b1⟩ := kk r u t T'.heap (locs ++ L) e1.symm (by rw [← e2]; exact X'.warmed.alike) hp hb k1 k2 k3 T' rfl X'
    exact ⟨t2, st t2 a1, b1⟩
  · obtain ⟨k1, k2, k3⟩ := vx_keep h0 e1 hS hAX hf hL hF
    obtain ⟨t2, a1, b1⟩ := kx E ce q u t T'.heap (locs ++ L) e1.symm (by rw [← e2]; exact X'.warmed.alike) hp hb k1 k2 k3 (by rw [e1]; exact hce) hcv hcl T' rfl X'
    exact ⟨t2, st.trans a1, b1⟩
theorem vx_calld {S SX : Type} {post : UInt64 → S → Prop} {px : SX → Prop} {B : S → State → Prop} {BX : String → SX → State → Prop} {AX : Nat → Prop} (hr : vx_Run p l e R s m args below meth c H locs cells slots mc ms (F0 m pc ls st0) rest (va_Qd post B A1 a) (vx_X px BX AX) free) (hS : va_S A0 H0 H locs) (hA : ∀ q, q < H.size → A1 q → A0 q) (hf : ∀ q, free q → A0 q) (hAX : ∀ q, q < H.size → AX q → A0 q)
    (kx : ∀ (E : String) (ce : Cell) (q9 : Addr) (u : SX) (t : State) (H1 : Heap) (locs1 : List Loc), t.heap = H1 → s.vm.Alike t.vm → px u → BX E u t → H.size ≤ H1.size → (∀ q : Nat, q < H.size → ¬ AX q → H1[q]? = H[q]?) → va_S A0 H0 H1 locs1 → H1[q9]? = some ce → ce.vm = .none → s.vm.findClass E = some ce.cls → vx_W p l e R s m args below meth c H1 locs1 (cells + mc) (slots + ms) Q (F0 m pc ls rest) q9)
    (kk : ∀ (r : UInt64) (u : S) (t : State) (H1 : Heap) (locs1 : List Loc), t.heap = H1 → s.vm.Alike t.vm → post r u → B u t → H.size ≤ H1.size → (∀ q : Nat, q < H.size → ¬ A1 q → H1[q]? = H[q]?) → va_S A0 H0 H1 locs1 → W p l e R s m args below meth c H1 locs1 (cells + mc) (slots + ms) Q (F0 m (pc + 3) ls (.double r :: rest))) : W p l e R s m args below meth c H locs cells slots Q (F0 m pc ls st0) := by
  intro T hT X
  rcases hr T hT X with ⟨v, st₀, t, T', L, h0, X', hL, e1, e2, ⟨⟨r, u, hv, hp, hb⟩, hF⟩, st⟩ | ⟨q, st₀, t, T', L, E, ce, h0, X', hL, e1, e2, ⟨u, hp, hb, hF⟩, hce, hcv, hcl, st⟩
  · cases hv
    obtain ⟨k1, k2, k3⟩ := vx_keep h0 e1 hS hA hf hL hF
    obtain ⟨t2, a1, b1⟩ := kk r u t T'.heap (locs ++ L) e1.symm (by rw [← e2]; exact X'.warmed.alike) hp hb k1 k2 k3 T' rfl X'
    exact ⟨t2, st t2 a1, b1⟩
  · obtain ⟨k1, k2, k3⟩ := vx_keep h0 e1 hS hAX hf hL hF
    obtain ⟨t2, a1, b1⟩ := kx E ce q u t T'.heap (locs ++ L) e1.symm (by rw [← e2]; exact X'.warmed.alike) hp hb k1 k2 k3 (by rw [e1]; exact hce) hcv hcl T' rfl X'
    exact ⟨t2, st.trans a1, b1⟩
theorem vx_callv {S SX : Type} {post : S → Prop} {px : SX → Prop} {B : S → State → Prop} {BX : String → SX → State → Prop} {AX : Nat → Prop} (hr : vx_Run p l e R s m args below meth c H locs cells slots mc ms (F0 m pc ls st0) rest (va_Qv post B A1 a) (vx_X px BX AX) free) (hS : va_S A0 H0 H locs) (hA : ∀ q, q < H.size → A1 q → A0 q) (hf : ∀ q, free q → A0 q) (hAX : ∀ q, q < H.size → AX q → A0 q)
    (kx : ∀ (E : String) (ce : Cell) (q9 : Addr) (u : SX) (t : State) (H1 : Heap) (locs1 : List Loc), t.heap = H1 → s.vm.Alike t.vm → px u → BX E u t → H.size ≤ H1.size → (∀ q : Nat, q < H.size → ¬ AX q → H1[q]? = H[q]?) → va_S A0 H0 H1 locs1 → H1[q9]? = some ce → ce.vm = .none → s.vm.findClass E = some ce.cls → vx_W p l e R s m args below meth c H1 locs1 (cells + mc) (slots + ms) Q (F0 m pc ls rest) q9)
    (kk : ∀ (u : S) (t : State) (H1 : Heap) (locs1 : List Loc), t.heap = H1 → s.vm.Alike t.vm → post u → B u t → H.size ≤ H1.size → (∀ q : Nat, q < H.size → ¬ A1 q → H1[q]? = H[q]?) → va_S A0 H0 H1 locs1 → W p l e R s m args below meth c H1 locs1 (cells + mc) (slots + ms) Q (F0 m (pc + 3) ls (rest))) : W p l e R s m args below meth c H locs cells slots Q (F0 m pc ls st0) := by
  intro T hT X
  rcases hr T hT X with ⟨v, st₀, t, T', L, h0, X', hL, e1, e2, ⟨⟨u, hv, hp, hb⟩, hF⟩, st⟩ | ⟨q, st₀, t, T', L, E, ce, h0, X', hL, e1, e2, ⟨u, hp, hb, hF⟩, hce, hcv, hcl, st⟩
  · cases hv
    obtain ⟨k1, k2, k3⟩ := vx_keep h0 e1 hS hA hf hL hF
    obtain ⟨t2, a1, b1⟩ := kk u t T'.heap (locs ++ L) e1.symm (by rw [← e2]; exact X'.warmed.alike) hp hb k1 k2 k3 T' rfl X'
    exact ⟨t2, st t2 a1, b1⟩
  · obtain ⟨k1, k2, k3⟩ := vx_keep h0 e1 hS hAX hf hL hF
    obtain ⟨t2, a1, b1⟩ := kx E ce q u t T'.heap (locs ++ L) e1.symm (by rw [← e2]; exact X'.warmed.alike) hp hb k1 k2 k3 (by rw [e1]; exact hce) hcv hcl T' rfl X'
    exact ⟨t2, st.trans a1, b1⟩
end Rows
section Ends
variable {p : Program} {l : Launch} {e : Env} {R : Room} {s : State} {m : MethodId} {args : Array Value} {below : List Frame} {meth : Method} {c : Code} {H : Heap} {locs : List Loc} {cells slots : Nat} {Q : State → Prop}
variable {mc ms : Nat} {free : Addr → Prop} {A0 A1 : Nat → Prop} {H0 : Heap} {a : Array Value} {ls : Array Slot} {st0 rest : List Value}
variable {Qc : Array Value → State → Outcome → State → Prop} {XC : String → State → State → Prop}
/-- what a body that may throw owes at its end -/
def vx_MQ (below : List Frame) (Qc : Array Value → State → Outcome → State → Prop) (XC : String → State → State → Prop) (a : Array Value) (s : State) (mc ms : Nat) (free : Addr → Prop) : State → Prop := fun t =>
  ∃ o, t.status = .running ∧ Ended t below o ∧ vx_Q Qc XC mc ms free a s o t
theorem vx_ret {g : JFrame} {mc ms : Nat} (k : W p l e R s m args below meth c H locs cells slots (MQ below Qc args s mc ms free) g) : W p l e R s m args below meth c H locs cells slots (vx_MQ below Qc XC args s mc ms free) g := by
  intro T hT X
  obtain ⟨t, a1, o, b1, b2, b3, b4⟩ := k T hT X
  exact ⟨t, a1, o, b1, b2, Or.inl ⟨b3, b4⟩⟩
/-- not caught here: it goes on to the caller -/
theorem vx_widen {g : JFrame} {q : Addr} {k n : Nat} (h1 : cells ≤ k) (h2 : slots ≤ n) (kk : vx_W p l e R s m args below meth c H locs k n Q g q) : vx_W p l e R s m args below meth c H locs cells slots Q g q := fun T hT X => kk T hT (stand_widen X h1 h2)
theorem vx_out {pc : Nat} {E : String} {ce : Cell} {q : Addr} {mc ms : Nat} (hout : ∀ x ∈ c.exceptionTable.toList, covers x pc = false) (hlocks : meth.locks = false) (hcell : H[q]? = some ce) (hv : ce.vm = .none) (hcl : s.vm.findClass E = some ce.cls)
    (hx : ∀ t : State, t.heap = H → s.vm.Alike t.vm → XC E s t) (hf : ∀ z ∈ locs, free z.base) (hc : cells ≤ mc) (hs : slots ≤ ms) :
    vx_W p l e R s m args below meth c H locs cells slots (vx_MQ below Qc XC args s mc ms free) (F0 m pc ls rest) q := by
  intro T hT X
  obtain ⟨st1, hrun, hend, hW, hsm⟩ := X.leaveThrown q (g := F0 m pc ls rest) rfl rfl rfl hout hlocks
  have hcell9 : (T.setFrames (.throwing q :: below)).heap[q]? = some ce := by
    show T.heap[q]? = some ce
    rw [hT]; exact hcell
  exact ⟨_, st1, .threw q, hrun, hend, Or.inr ⟨q, rfl, E, ce, locs, hx _ hT hW.alike, hcell9, hv, hcl, hW, hsm.mono hc hs, hf⟩⟩
theorem vx_frame {U : State} {k n : Nat} (h : s.sameButNew ({ U with vm := s.vm } : State) locs k n) : s.heap.size ≤ U.heap.size ∧ ∀ q : Nat, q < s.heap.size → (∀ z ∈ locs, z.base ≠ q) → U.heap[q]? = s.heap[q]? := by
  obtain ⟨-, h2, -, -, -, h6⟩ := h
  refine ⟨h2, fun q hq hz => ?_⟩
  obtain ⟨c9, e1, e2, e3, e4⟩ := h6 q _ (Array.getElem?_eq_getElem hq)
  have hs : c9.slots = (s.heap[q]).slots := Array.ext_getElem? fun i => e4 i fun hm => hz _ hm rfl
  have h9 : c9 = s.heap[q] := by
    rw [hs] at e2
    exact e2
  have e5 : U.heap[q]? = some c9 := e1
  rw [e5, h9, Array.getElem?_eq_getElem hq]
/-- the words of a throw but the four that speak of the heap -/
def vx_no (w : Cond) : Bool := decide (w ≠ .isRef (.static Bundle.tN "UNASSIGNED_STACK" Bundle.steD)) && decide (w ≠ .isRef (.static Bundle.tN "SUPPRESSED_SENTINEL" Bundle.listD)) && decide (w ≠ .laysStatic Bundle.tN "UNASSIGNED_STACK" Bundle.steD) && decide (w ≠ .laysStatic Bundle.tN "SUPPRESSED_SENTINEL" Bundle.listD)
def vx_at0 (own : String) (ic : Nat) (X : String) (names : List String) : List Cond := (Bundle.ownAtoms0 own ic X names).filter vx_no
def vx_atS (own : String) (ic : Nat) (X : String) (names : List String) : List Cond := (Bundle.ownAtoms own ic X names).filter vx_no
/-- a word that the tables alone decide, or a good one -/
def vx_ot (w : Cond) : Bool := w.onTables || goodWord w
theorem vx_ot_at {args a' : Array Value} {s U : State} {w : Cond} (hW : s.WarmedH U.vm) (hvm : s.vm = U.vm) (hg : vx_ot w = true) (h : w.before args s = true) : w.before a' U = true := by
  simp only [vx_ot, Bool.or_eq_true] at hg
  rcases hg with hg | hg
  · exact va_tabs hg hvm h
  · exact word_at hW (good_of_word hg) h
/-- a list's words: the good ones out of the method's own list, the others by premises of their own -/
theorem vx_hat {args : Array Value} {s : State} {L B : List Cond} (h1 : ∀ w ∈ L.filter goodWord, w.before args s = true) (h2 : ∀ w ∈ L.filter (fun w => !goodWord w), w ∈ B) (h3 : ∀ w ∈ B, w.before args s = true) : ∀ w ∈ L, w.before args s = true := by
  intro w hw
  by_cases g : goodWord w = true
  · exact h1 w (List.mem_filter.mpr ⟨hw, g⟩)
  · refine h3 w (h2 w (List.mem_filter.mpr ⟨hw, ?_⟩))
    show (!goodWord w) = true
    cases hgw : goodWord w
    · rfl
    · exact absurd hgw g
theorem vx_c {args : Array Value} {s : State} {w : Cond} {B : List Cond} (h : w.before args s = true) (t : ∀ w ∈ B, w.before args s = true) : ∀ w' ∈ w :: B, w'.before args s = true := fun w' h' => (List.mem_cons.mp h').elim (fun e => by rw [e]; exact h) (t w')
theorem vx_n {args : Array Value} {s : State} : ∀ w ∈ ([] : List Cond), w.before args s = true := fun _ h => nomatch h
theorem vx_own {args : Array Value} {s : State} {L : List Cond} (h1 : ∀ w ∈ L.filter vx_no, w.before args s = true)
    (hU : (Cond.isRef (.static Bundle.tN "UNASSIGNED_STACK" Bundle.steD)).before args s = true) (hN : (Cond.isRef (.static Bundle.tN "SUPPRESSED_SENTINEL" Bundle.listD)).before args s = true)
    (lU : (Cond.laysStatic Bundle.tN "UNASSIGNED_STACK" Bundle.steD).before args s = true) (lN : (Cond.laysStatic Bundle.tN "SUPPRESSED_SENTINEL" Bundle.listD).before args s = true) : ∀ w ∈ L, w.before args s = true := by
  intro w hw
  by_cases e1 : w = .isRef (.static Bundle.tN "UNASSIGNED_STACK" Bundle.steD)
  · rw [e1]; exact hU
  · by_cases e2 : w = .isRef (.static Bundle.tN "SUPPRESSED_SENTINEL" Bundle.listD)
    · rw [e2]; exact hN
    · by_cases e3 : w = .laysStatic Bundle.tN "UNASSIGNED_STACK" Bundle.steD
      · rw [e3]; exact lU
      · by_cases e4 : w = .laysStatic Bundle.tN "SUPPRESSED_SENTINEL" Bundle.listD
        · rw [e4]; exact lN
        · exact h1 w (List.mem_filter.mpr ⟨hw, by unfold vx_no; rw [decide_eq_true e1, decide_eq_true e2, decide_eq_true e3, decide_eq_true e4]; rfl⟩)
/-- where a static field lies, its class's statics cell in H -/
def vx_L (C n d : String) (A : Nat → Prop) (U : State) (H : Heap) : Prop := ∃ (c : ClassId) (k : Class) (i : Nat) (f : Field) (a : Nat) (cell : Cell), U.vm.findClass C = some c ∧ U.fieldFound? C n d = some (c, k, i, f) ∧ f.isStatic = true ∧ k.statics = some a ∧ H[a]? = some cell ∧ cell.vm.isStatics = true ∧ cell.cls = c ∧ f.slot < cell.slots.size ∧ k.staticTypes[f.slot]? = some f.type ∧ ¬ A a
theorem vx_L.moved {C n d : String} {A : Nat → Prop} {u U : State} {H : Heap} (hvm : u.vm.Alike U.vm) (h : vx_L C n d A u H) : vx_L C n d A U H := by
  obtain ⟨c, k, i, f, a, cell, h1, h2, h3, h4, h5, h6, h7, h8, h9, h10⟩ := h
  obtain ⟨k', hi', he⟩ := State.fieldFound?_setVm hvm h2
  exact ⟨c, k', i, f, a, cell, by rw [hvm.findClass]; exact h1, hi', h3, by rw [he]; exact h4, h5, h6, h7, h8, by rw [he]; exact h9, h10⟩
theorem vx_L.kept {C n d : String} {A : Nat → Prop} {U : State} {H H1 : Heap} (h : vx_L C n d A U H) (hq : ∀ a : Nat, a < H.size → ¬ A a → H1[a]? = H[a]?) : vx_L C n d A U H1 := by
  obtain ⟨c, k, i, f, a, cell, h1, h2, h3, h4, h5, h6, h7, h8, h9, h10⟩ := h
  exact ⟨c, k, i, f, a, cell, h1, h2, h3, h4, by rw [hq a (Array.getElem?_eq_some_iff.mp h5).1 h10]; exact h5, h6, h7, h8, h9, h10⟩
theorem vx_L.narrow {C n d : String} {A B : Nat → Prop} {U : State} {H : Heap} (h : vx_L C n d A U H) (hAB : ∀ q, B q → A q) : vx_L C n d B U H := by
  obtain ⟨c, k, i, f, a, cell, h1, h2, h3, h4, h5, h6, h7, h8, h9, h10⟩ := h
  exact ⟨c, k, i, f, a, cell, h1, h2, h3, h4, h5, h6, h7, h8, h9, fun z => h10 (hAB _ z)⟩
theorem vx_L.word {C n d : String} {A : Nat → Prop} {s : State} {args : Array Value} (h : vx_L C n d A s s.heap) : (Cond.laysStatic C n d).before args s = true := by
  obtain ⟨c, k, i, f, a, cell, h1, h2, h3, h4, h5, h6, h7, h8, h9, -⟩ := h
  show (Cond.laysStatic C n d).holds args s none s [] = true
  exact Cond.laysStatic_of h1 h2 h3 h4 h5 h6 h7 h8 h9
/-- .. and what it holds: null or some reference -/
def vx_Zq (C n d : String) (A : Nat → Prop) (U : State) (H : Heap) : Prop := va_Zq C n d A U H ∧ vx_L C n d A U H
theorem vx_Zq.moved {C n d : String} {A : Nat → Prop} {u U : State} {H : Heap} (hvm : u.vm.Alike U.vm) (h : vx_Zq C n d A u H) : vx_Zq C n d A U H := ⟨va_Zq.moved hvm h.1, vx_L.moved hvm h.2⟩
theorem vx_Zq.kept {C n d : String} {A : Nat → Prop} {U : State} {H H1 : Heap} (h : vx_Zq C n d A U H) (hq : ∀ a : Nat, a < H.size → ¬ A a → H1[a]? = H[a]?) : vx_Zq C n d A U H1 := ⟨va_Zq.kept h.1 hq, vx_L.kept h.2 hq⟩
theorem vx_Zq.narrow {C n d : String} {A B : Nat → Prop} {U : State} {H : Heap} (h : vx_Zq C n d A U H) (hAB : ∀ q, B q → A q) : vx_Zq C n d B U H := ⟨va_Zq.narrow h.1 hAB, vx_L.narrow h.2 hAB⟩
theorem vx_Zqof {args : Array Value} {s : State} {C n d : String} {A : Nat → Prop} (hl : (Cond.laysStatic C n d).before args s = true) (hini : (Cond.initialized C).before args s = true) (h : (Cond.isRef (.static C n d)).before args s = true) (hA : ∀ a : Nat, a < s.heap.size → ¬ A a) : vx_Zq C n d A s s.heap := by
  refine ⟨va_Zqof hl hini h hA, ?_⟩
  obtain ⟨c, k, i, f, a, cell, h1, h2, h3, h4, h5, h6, h7, h8, h9⟩ := Cond.laysStatic_spec hl
  exact ⟨c, k, i, f, a, cell, h1, h2, h3, h4, h5, h6, h7, h8, h9, hA a (Array.getElem?_eq_some_iff.mp h5).1⟩
theorem vx_isRef {C n d : String} {v : Value} {A : Nat → Prop} {s : State} {args : Array Value} (h : va_Z C n d v A s s.heap) (hv : v.isRef = true) : (Cond.isRef (.static C n d)).before args s = true := by
  obtain ⟨cf, kf, fi, f, a, cell, h1, h2, h3, h4, h5, h6, h7, -⟩ := h
  have he : (Term.static C n d).eval args s none [] s = some v := by
    simp [Term.eval, State.fieldNamed?, h1, h2, h4, h5, h6, h7]
  simp only [Cond.before, Cond.holds, Cond.value, he]
  cases v <;> simp_all [Value.isRef]
theorem vx_isRefq {C n d : String} {A : Nat → Prop} {s : State} {args : Array Value} (h : va_Zq C n d A s s.heap) : (Cond.isRef (.static C n d)).before args s = true := by
  rcases h with h | ⟨t, h⟩
  · exact vx_isRef h rfl
  · exact vx_isRef h rfl
/-- the same frame, seen from here: as if the method were called anew in this heap -/
theorem vx_rebase {T : State} (X : Stand p l e R s m args below meth c T locs cells slots) {R' : Room} (hf : R'.frames ≤ R.frames) (hl : R'.locals ≤ R.locals) (hc : cells + R'.cells ≤ R.cells) (hs : slots + R'.slots ≤ R.slots) :
    Stand p l e R' ((T.setVm s.vm).setFrames (.invoking m args :: below)) m args below meth c T [] 0 0 := by
  have htop : (T.setVm s.vm).topJava?.isSome := X.here.top
  have hF : ((T.setVm s.vm).setFrames (.invoking m args :: below)).frames = .invoking m args :: below := State.frames_setFrames _ (State.cur_lt_of_top htop)
  obtain ⟨g₀, hg0⟩ := Option.isSome_iff_exists.mp htop
  obtain ⟨r, hr⟩ := State.topJava?_eq_some.mp hg0
  have hl9 : e.platform.stackLimits (T.setVm s.vm).me = e.platform.stackLimits s.me := X.limits
  have hb9 : (T.setVm s.vm).me.stackBytes = s.me.stackBytes := X.bytes
  refine ⟨X.admits, X.cas, X.clock, hF, ?_, X.hears, X.method, X.code, X.here, X.tail, X.warmed, ?_, ?_, ?_⟩
  · have h := X.room
    have hU : ((T.setVm s.vm).setFrames (.invoking m args :: below)).localsInUse = s.localsInUse := by
      rw [State.localsInUse_invoking hF (meth := meth) (c := c) X.method X.code, State.localsInUse_invoking X.frames X.method X.code]
    simp only [State.hasRoom, Bool.and_eq_true, decide_eq_true_eq] at h ⊢
    obtain ⟨⟨⟨⟨h1, h2, h3, h4, h5, h6⟩, h7⟩, h8⟩, h9⟩ := h
    rw [X.frames, List.length_cons] at h2 h3
    have q1 := X.heapSize
    have q2 := X.used
    simp only [hF, hU, List.length_cons, State.stackLimits_setFrames, State.stackBytes_setFrames, hl9, hb9]
    refine ⟨⟨⟨⟨by omega, by omega, by omega, by omega, by omega, h6⟩, ?_⟩, ?_⟩, X.book⟩
    · show T.heap.size + R'.cells ≤ e.platform.maxCells
      omega
    · show T.slotsUsed + R'.slots ≤ e.platform.maxSlots
      omega
  · rw [State.stackLimits_setFrames]; rfl
  · rw [State.stackBytes_setFrames]; rfl
  · refine ⟨?_, Nat.le_refl _, Nat.le_refl _, ?_, ?_, fun a c9 h9 => ⟨c9, h9, rfl, rfl, fun _ _ => rfl⟩⟩
    · obtain ⟨t, ht, -⟩ := State.frames_cons hr
      show T.setVm s.vm = { ((T.setVm s.vm).setFrames (.invoking m args :: below)).setFrames (T.setVm s.vm).frames with heap := T.heap, slotsUsed := T.slotsUsed }
      rw [State.setFrames_setFrames, State.setFrames_self ht]
      rfl
    · show T.slotsUsed = T.slotsUsed + ((T.heap.toList.drop T.heap.size).map (·.slots.size)).sum
      rw [List.drop_eq_nil_of_le (Nat.le_of_eq Array.length_toList)]
      rfl
    · show ((T.heap.toList.drop T.heap.size).map (·.slots.size)).sum ≤ 0
      rw [List.drop_eq_nil_of_le (Nat.le_of_eq Array.length_toList)]
      exact Nat.le_refl _
/-- 'throw new E()': new; dup; invokespecial; athrow -/
theorem vx_throw0 {cc : ByteArray} {pc : Nat} (hexec : p.tables.exec = Jvm.exec) (hb : c.code = cc) (hl : l.stackTraces = false) {own cls : String} {names : List String} {ik ic mc ms : Nat} {A : Nat → Prop}
    (hown : s.vm.findClass own = some m.cls) (hcls : Bundle.fit cls = true) (hnames : ∀ n ∈ names, Bundle.fit n = true)
    (hk : (Cond.classLink own ik cls).before args s = true) (hini : (Cond.initialized cls).before args s = true) (hat : ∀ w ∈ vx_at0 own ic cls names, w.before args s = true)
    (hgood : ∀ w ∈ Cond.classLink own ik cls :: Cond.initialized cls :: vx_at0 own ic cls names, vx_ot w = true)
    (hU : vx_Zq Bundle.tN "UNASSIGNED_STACK" Bundle.steD A s s.heap) (hN : vx_Zq Bundle.tN "SUPPRESSED_SENTINEL" Bundle.listD A s s.heap) (hS : va_S A s.heap H locs) (hsize : ls.size = c.maxLocals)
    (d0 : decode cc pc = .ok (.new ik, 3)) (d3 : decode cc (pc + 3) = .ok (.dup, 1)) (d4 : decode cc (pc + 4) = .ok (.invokespecial ic, 3)) (d7 : decode cc (pc + 7) = .ok (.athrow, 1))
    (hout : ∀ x ∈ c.exceptionTable.toList, covers x (pc + 7) = false)
    (hRframes : names.length + 3 < R.frames) (hRlocals : (rest.map fun v => v.category).sum + (13 * (names.length + 1) + 42) ≤ R.locals) (hRcells : cells + 1 ≤ R.cells) (hRslots : slots + 6 ≤ R.slots) (hlocks : meth.locks = false)
    (hx : ∀ t : State, s.vm.Alike t.vm → H.size ≤ t.heap.size → (∀ q : Nat, q < H.size → t.heap[q]? = H[q]?) → XC cls s t)
    (hf : ∀ z ∈ locs, free z.base) (hc : cells + 1 ≤ mc) (hs : slots + 6 ≤ ms) :
    W p l e R s m args below meth c H locs cells slots (vx_MQ below Qc XC args s mc ms free) (F0 m pc ls rest) := by
  intro T hT X
  have htr : e.platform.stackTraces = false := (show e.platform.stackTraces = l.stackTraces by rw [X.admits.platform]).trans hl
  have Y := vx_rebase X (R' := { frames := R.frames, locals := R.locals, cells := 1, slots := 6 }) (Nat.le_refl _) (Nat.le_refl _) hRcells hRslots
  obtain ⟨s', hA⟩ : ∃ z, z = (T.setVm s.vm).setFrames (.invoking m args :: below) := ⟨_, rfl⟩
  rw [← hA] at Y
  have hvm : s'.vm = s.vm := by rw [hA]; rfl
  have hhp : s'.heap = H := by rw [hA]; exact hT
  have hW0 : s.WarmedH s'.vm := by rw [hvm]; exact State.WarmedH.refl s
  have hat' : ∀ w ∈ vx_at0 own ic cls names, w.before args s' = true := fun w hw => vx_ot_at hW0 hvm.symm (hgood w (List.mem_cons_of_mem _ (List.mem_cons_of_mem _ hw))) (hat w hw)
  have hk' : (Cond.classLink own ik cls).before args s' = true := vx_ot_at hW0 hvm.symm (hgood _ List.mem_cons_self) hk
  have hini' : (Cond.initialized cls).before args s' = true := vx_ot_at hW0 hvm.symm (hgood _ (List.mem_cons_of_mem _ List.mem_cons_self)) hini
  have hU' : vx_Zq Bundle.tN "UNASSIGNED_STACK" Bundle.steD A s' s'.heap := by rw [hhp]; exact vx_Zq.moved hW0.alike (hU.kept hS.2.1)
  have hN' : vx_Zq Bundle.tN "SUPPRESSED_SENTINEL" Bundle.listD A s' s'.heap := by rw [hhp]; exact vx_Zq.moved hW0.alike (hN.kept hS.2.1)
  have h : ∀ w ∈ Bundle.ownAtoms0 own ic cls names, w.before args s' = true := vx_own hat' (vx_isRefq hU'.1) (vx_isRefq hN'.1) hU'.2.word hN'.2.word
  have hown' : s'.vm.findClass own = some m.cls := by rw [hvm]; exact hown
  have hins : (Cond.instantiable cls 6).before args s' = true := h _ (by simp [Bundle.ownAtoms0])
  obtain ⟨vm₁, cX, kX, hfX, hkX, -, -, X₁, st1⟩ := Y.newCold hexec (own := own) (C := cls) (index := ik) (n := 6) hown' hk' hins hini'
    (g := F0 m pc ls rest) rfl (by rw [hb]; exact d0) (Nat.le_refl _) (Nat.le_refl _)
  generalize hT1 : (T.setVm vm₁).pushCell { cls := cX, slots := kX.instanceTypes.map defaultValue, vm := .none } = T1 at X₁ st1
  have hcat : (Value.ref T.heap.size).category = 1 := rfl
  have hcellA : T1.heap[T.heap.size]? = some (freshCell cX kX) := by rw [← hT1]; exact State.heap_pushCell_size _ _
  have d3' : decode c.code (pc + 3) = .ok (.dup, 1) := by rw [hb]; exact d3
  obtain ⟨U, hsteps, hrun, hend, hW, hsame, ce, hce, hO⟩ := X₁.ctorThrow0 hexec htr (own := own) (cls := cls) (names := names) (ic := ic) hown' hcls hnames h (fun x hx => nomatch hx) hfX hkX hcellA (by rw [hhp, hT]; exact Nat.le_refl _)
    (g := { method := m, pc := pc + 4, locals := ls, stack := .ref T.heap.size :: .ref T.heap.size :: rest, locked := none }) rfl hsize rfl rfl (rest := rest) rfl
    (by rw [hb]; exact d4) (by rw [hb]; exact d7) hout hRframes (by simp only [List.map_cons, List.sum_cons, hcat]; omega) hlocks
  obtain ⟨f1, f2⟩ := vx_frame hsame
  rw [hhp] at f1 f2
  have hWs : s.WarmedH U.vm := State.WarmedH.trans hW0 hW
  have hcl : s.vm.findClass cls = some ce.cls := by
    have h9 := hO.cls
    rw [hvm] at h9
    exact h9
  have hall : s.sameButNew ({ U with vm := s.vm } : State) locs mc ms := by
    subst hA
    obtain ⟨e1, e2⟩ := hsame
    rw [State.setFrames_setFrames] at e1
    have h2 : (T.setVm s.vm).sameButNew ({ U with vm := s.vm } : State) [] (0 + 1) (0 + 6) := ⟨e1, e2⟩
    have h3 := X.same.trans h2
    rw [List.append_nil] at h3
    exact h3.mono hc hs
  refine ⟨U, ?_, .threw T.heap.size, hrun, hend, Or.inr ⟨T.heap.size, rfl, cls, ce, locs, hx U hWs.alike f1 (fun q hq => f2 q hq (fun z hz => nomatch hz)), hce, hO.vm, hcl, hWs, hall, hf⟩⟩
  refine st1 _ ?_
  show Steps p.tables e below (T1.setTop { method := m, pc := pc + 3, locals := ls, stack := .ref T.heap.size :: rest, locked := none }) _
  jvm_step X₁.here [X₁.here.top, hexec, d3', Value.category]
  exact hsteps
/-- 'throw new E("text")': new; dup; ldc; invokespecial; athrow -/
theorem vx_throwS {cc : ByteArray} {pc : Nat} (hexec : p.tables.exec = Jvm.exec) (hb : c.code = cc) (hl : l.stackTraces = false) {own cls text : String} {names : List String} {ik is ic mc ms sa : Nat} {A : Nat → Prop}
    (hown : s.vm.findClass own = some m.cls) (hcls : Bundle.fit cls = true) (hnames : ∀ n ∈ names, Bundle.fit n = true)
    (hk : (Cond.classLink own ik cls).before args s = true) (hini : (Cond.initialized cls).before args s = true) (hstr : vk_R own is text sa s) (hat : ∀ w ∈ vx_atS own ic cls names, w.before args s = true)
    (hgood : ∀ w ∈ Cond.classLink own ik cls :: Cond.initialized cls :: vx_atS own ic cls names, vx_ot w = true)
    (hU : vx_Zq Bundle.tN "UNASSIGNED_STACK" Bundle.steD A s s.heap) (hN : vx_Zq Bundle.tN "SUPPRESSED_SENTINEL" Bundle.listD A s s.heap) (hS : va_S A s.heap H locs) (hsize : ls.size = c.maxLocals)
    (d0 : decode cc pc = .ok (.new ik, 3)) (d3 : decode cc (pc + 3) = .ok (.dup, 1)) (d4 : decode cc (pc + 4) = .ok (.ldc is, 2)) (d6 : decode cc (pc + 6) = .ok (.invokespecial ic, 3)) (d9 : decode cc (pc + 9) = .ok (.athrow, 1))
    (hout : ∀ x ∈ c.exceptionTable.toList, covers x (pc + 9) = false)
    (hRframes : names.length + 3 < R.frames) (hRlocals : (rest.map fun v => v.category).sum + (13 * (names.length + 1) + 43) ≤ R.locals) (hRcells : cells + 1 ≤ R.cells) (hRslots : slots + 6 ≤ R.slots) (hlocks : meth.locks = false)
    (hx : ∀ t : State, s.vm.Alike t.vm → H.size ≤ t.heap.size → (∀ q : Nat, q < H.size → t.heap[q]? = H[q]?) → XC cls s t)
    (hf : ∀ z ∈ locs, free z.base) (hc : cells + 1 ≤ mc) (hs : slots + 6 ≤ ms) :
    W p l e R s m args below meth c H locs cells slots (vx_MQ below Qc XC args s mc ms free) (F0 m pc ls rest) := by
  intro T hT X
  have htr : e.platform.stackTraces = false := (show e.platform.stackTraces = l.stackTraces by rw [X.admits.platform]).trans hl
  have Y := vx_rebase X (R' := { frames := R.frames, locals := R.locals, cells := 1, slots := 6 }) (Nat.le_refl _) (Nat.le_refl _) hRcells hRslots
  obtain ⟨s', hA⟩ : ∃ z, z = (T.setVm s.vm).setFrames (.invoking m args :: below) := ⟨_, rfl⟩
  rw [← hA] at Y
  have hvm : s'.vm = s.vm := by rw [hA]; rfl
  have hhp : s'.heap = H := by rw [hA]; exact hT
  have hW0 : s.WarmedH s'.vm := by rw [hvm]; exact State.WarmedH.refl s
  have hat' : ∀ w ∈ vx_atS own ic cls names, w.before args s' = true := fun w hw => vx_ot_at hW0 hvm.symm (hgood w (List.mem_cons_of_mem _ (List.mem_cons_of_mem _ hw))) (hat w hw)
  have hk' : (Cond.classLink own ik cls).before args s' = true := vx_ot_at hW0 hvm.symm (hgood _ List.mem_cons_self) hk
  have hini' : (Cond.initialized cls).before args s' = true := vx_ot_at hW0 hvm.symm (hgood _ (List.mem_cons_of_mem _ List.mem_cons_self)) hini
  have hU' : vx_Zq Bundle.tN "UNASSIGNED_STACK" Bundle.steD A s' s'.heap := by rw [hhp]; exact vx_Zq.moved hW0.alike (hU.kept hS.2.1)
  have hN' : vx_Zq Bundle.tN "SUPPRESSED_SENTINEL" Bundle.listD A s' s'.heap := by rw [hhp]; exact vx_Zq.moved hW0.alike (hN.kept hS.2.1)
  have h : ∀ w ∈ Bundle.ownAtoms own ic cls names, w.before args s' = true := vx_own hat' (vx_isRefq hU'.1) (vx_isRefq hN'.1) hU'.2.word hN'.2.word
  have hown' : s'.vm.findClass own = some m.cls := by rw [hvm]; exact hown
  have hins : (Cond.instantiable cls 6).before args s' = true := h _ (by simp [Bundle.ownAtoms])
  obtain ⟨vm₁, cX, kX, hfX, hkX, -, -, X₁, st1⟩ := Y.newCold hexec (own := own) (C := cls) (index := ik) (n := 6) hown' hk' hins hini'
    (g := F0 m pc ls rest) rfl (by rw [hb]; exact d0) (Nat.le_refl _) (Nat.le_refl _)
  generalize hT1 : (T.setVm vm₁).pushCell { cls := cX, slots := kX.instanceTypes.map defaultValue, vm := .none } = T1 at X₁ st1
  have hcat : (Value.ref T.heap.size).category = 1 := rfl
  have hcellA : T1.heap[T.heap.size]? = some (freshCell cX kX) := by rw [← hT1]; exact State.heap_pushCell_size _ _
  have d3' : decode c.code (pc + 3) = .ok (.dup, 1) := by rw [hb]; exact d3
  have d4' : decode c.code (pc + 4) = .ok (.ldc is, 2) := by rw [hb]; exact d4
  have hstr' : vk_R own is text sa s' := vk_R.warm hW0 hstr
  obtain ⟨U, hsteps, hrun, hend, hW, hsame, ce, hce, hO⟩ := X₁.ctorThrowS hexec htr (own := own) (cls := cls) (names := names) (ic := ic) hown' hcls hnames h (fun x hx => nomatch hx) hfX hkX hcellA (by rw [hhp, hT]; exact Nat.le_refl _) (msg := .ref sa) rfl
    (g := { method := m, pc := pc + 6, locals := ls, stack := .ref sa :: .ref T.heap.size :: .ref T.heap.size :: rest, locked := none }) rfl hsize rfl rfl (rest := rest) rfl
    (by rw [hb]; exact d6) (by rw [hb]; exact d9) hout hRframes (by simp only [List.map_cons, List.sum_cons, hcat]; omega) hlocks
  obtain ⟨f1, f2⟩ := vx_frame hsame
  rw [hhp] at f1 f2
  have hWs : s.WarmedH U.vm := State.WarmedH.trans hW0 hW
  have hcl : s.vm.findClass cls = some ce.cls := by
    have h9 := hO.cls
    rw [hvm] at h9
    exact h9
  have hall : s.sameButNew ({ U with vm := s.vm } : State) locs mc ms := by
    subst hA
    obtain ⟨e1, e2⟩ := hsame
    rw [State.setFrames_setFrames] at e1
    have h2 : (T.setVm s.vm).sameButNew ({ U with vm := s.vm } : State) [] (0 + 1) (0 + 6) := ⟨e1, e2⟩
    have h3 := X.same.trans h2
    rw [List.append_nil] at h3
    exact h3.mono hc hs
  refine ⟨U, ?_, .threw T.heap.size, hrun, hend, Or.inr ⟨T.heap.size, rfl, cls, ce, locs, hx U hWs.alike f1 (fun q hq => f2 q hq (fun z hz => nomatch hz)), hce, hO.vm, hcl, hWs, hall, hf⟩⟩
  refine st1 _ ?_
  show Steps p.tables e below (T1.setTop { method := m, pc := pc + 3, locals := ls, stack := .ref T.heap.size :: rest, locked := none }) _
  jvm_step X₁.here [X₁.here.top, hexec, d3', Value.category]
  exact X₁.ldcString hexec (own := own) (text := text) (index := is) (a := sa) hown' hstr'.1 hstr'.2
    (g := { method := m, pc := pc + 4, locals := ls, stack := .ref T.heap.size :: .ref T.heap.size :: rest, locked := none }) rfl d4' _ hsteps
/-- 'throw new E("text")', the text by a wide index -/
theorem vx_throwSW {cc : ByteArray} {pc : Nat} (hexec : p.tables.exec = Jvm.exec) (hb : c.code = cc) (hl : l.stackTraces = false) {own cls text : String} {names : List String} {ik is ic mc ms sa : Nat} {A : Nat → Prop}
    (hown : s.vm.findClass own = some m.cls) (hcls : Bundle.fit cls = true) (hnames : ∀ n ∈ names, Bundle.fit n = true)
    (hk : (Cond.classLink own ik cls).before args s = true) (hini : (Cond.initialized cls).before args s = true) (hstr : vk_R own is text sa s) (hat : ∀ w ∈ vx_atS own ic cls names, w.before args s = true)
    (hgood : ∀ w ∈ Cond.classLink own ik cls :: Cond.initialized cls :: vx_atS own ic cls names, vx_ot w = true)
    (hU : vx_Zq Bundle.tN "UNASSIGNED_STACK" Bundle.steD A s s.heap) (hN : vx_Zq Bundle.tN "SUPPRESSED_SENTINEL" Bundle.listD A s s.heap) (hS : va_S A s.heap H locs) (hsize : ls.size = c.maxLocals)
    (d0 : decode cc pc = .ok (.new ik, 3)) (d3 : decode cc (pc + 3) = .ok (.dup, 1)) (d4 : decode cc (pc + 4) = .ok (.ldc_w is, 3)) (d7 : decode cc (pc + 7) = .ok (.invokespecial ic, 3)) (d10 : decode cc (pc + 10) = .ok (.athrow, 1))
    (hout : ∀ x ∈ c.exceptionTable.toList, covers x (pc + 10) = false)
    (hRframes : names.length + 3 < R.frames) (hRlocals : (rest.map fun v => v.category).sum + (13 * (names.length + 1) + 43) ≤ R.locals) (hRcells : cells + 1 ≤ R.cells) (hRslots : slots + 6 ≤ R.slots) (hlocks : meth.locks = false)
    (hx : ∀ t : State, s.vm.Alike t.vm → H.size ≤ t.heap.size → (∀ q : Nat, q < H.size → t.heap[q]? = H[q]?) → XC cls s t)
    (hf : ∀ z ∈ locs, free z.base) (hc : cells + 1 ≤ mc) (hs : slots + 6 ≤ ms) :
    W p l e R s m args below meth c H locs cells slots (vx_MQ below Qc XC args s mc ms free) (F0 m pc ls rest) := by
  intro T hT X
  have htr : e.platform.stackTraces = false := (show e.platform.stackTraces = l.stackTraces by rw [X.admits.platform]).trans hl
  have Y := vx_rebase X (R' := { frames := R.frames, locals := R.locals, cells := 1, slots := 6 }) (Nat.le_refl _) (Nat.le_refl _) hRcells hRslots
  obtain ⟨s', hA⟩ : ∃ z, z = (T.setVm s.vm).setFrames (.invoking m args :: below) := ⟨_, rfl⟩
  rw [← hA] at Y
  have hvm : s'.vm = s.vm := by rw [hA]; rfl
  have hhp : s'.heap = H := by rw [hA]; exact hT
  have hW0 : s.WarmedH s'.vm := by rw [hvm]; exact State.WarmedH.refl s
  have hat' : ∀ w ∈ vx_atS own ic cls names, w.before args s' = true := fun w hw => vx_ot_at hW0 hvm.symm (hgood w (List.mem_cons_of_mem _ (List.mem_cons_of_mem _ hw))) (hat w hw)
  have hk' : (Cond.classLink own ik cls).before args s' = true := vx_ot_at hW0 hvm.symm (hgood _ List.mem_cons_self) hk
  have hini' : (Cond.initialized cls).before args s' = true := vx_ot_at hW0 hvm.symm (hgood _ (List.mem_cons_of_mem _ List.mem_cons_self)) hini
  have hU' : vx_Zq Bundle.tN "UNASSIGNED_STACK" Bundle.steD A s' s'.heap := by rw [hhp]; exact vx_Zq.moved hW0.alike (hU.kept hS.2.1)
  have hN' : vx_Zq Bundle.tN "SUPPRESSED_SENTINEL" Bundle.listD A s' s'.heap := by rw [hhp]; exact vx_Zq.moved hW0.alike (hN.kept hS.2.1)
  have h : ∀ w ∈ Bundle.ownAtoms own ic cls names, w.before args s' = true := vx_own hat' (vx_isRefq hU'.1) (vx_isRefq hN'.1) hU'.2.word hN'.2.word
  have hown' : s'.vm.findClass own = some m.cls := by rw [hvm]; exact hown
  have hins : (Cond.instantiable cls 6).before args s' = true := h _ (by simp [Bundle.ownAtoms])
  obtain ⟨vm₁, cX, kX, hfX, hkX, -, -, X₁, st1⟩ := Y.newCold hexec (own := own) (C := cls) (index := ik) (n := 6) hown' hk' hins hini'
    (g := F0 m pc ls rest) rfl (by rw [hb]; exact d0) (Nat.le_refl _) (Nat.le_refl _)
  generalize hT1 : (T.setVm vm₁).pushCell { cls := cX, slots := kX.instanceTypes.map defaultValue, vm := .none } = T1 at X₁ st1
  have hcat : (Value.ref T.heap.size).category = 1 := rfl
  have hcellA : T1.heap[T.heap.size]? = some (freshCell cX kX) := by rw [← hT1]; exact State.heap_pushCell_size _ _
  have d3' : decode c.code (pc + 3) = .ok (.dup, 1) := by rw [hb]; exact d3
  have d4' : decode c.code (pc + 4) = .ok (.ldc_w is, 3) := by rw [hb]; exact d4
  have hstr' : vk_R own is text sa s' := vk_R.warm hW0 hstr
  obtain ⟨U, hsteps, hrun, hend, hW, hsame, ce, hce, hO⟩ := X₁.ctorThrowS hexec htr (own := own) (cls := cls) (names := names) (ic := ic) hown' hcls hnames h (fun x hx => nomatch hx) hfX hkX hcellA (by rw [hhp, hT]; exact Nat.le_refl _) (msg := .ref sa) rfl
    (g := { method := m, pc := pc + 7, locals := ls, stack := .ref sa :: .ref T.heap.size :: .ref T.heap.size :: rest, locked := none }) rfl hsize rfl rfl (rest := rest) rfl
    (by rw [hb]; exact d7) (by rw [hb]; exact d10) hout hRframes (by simp only [List.map_cons, List.sum_cons, hcat]; omega) hlocks
  obtain ⟨f1, f2⟩ := vx_frame hsame
  rw [hhp] at f1 f2
  have hWs : s.WarmedH U.vm := State.WarmedH.trans hW0 hW
  have hcl : s.vm.findClass cls = some ce.cls := by
    have h9 := hO.cls
    rw [hvm] at h9
    exact h9
  have hall : s.sameButNew ({ U with vm := s.vm } : State) locs mc ms := by
    subst hA
    obtain ⟨e1, e2⟩ := hsame
    rw [State.setFrames_setFrames] at e1
    have h2 : (T.setVm s.vm).sameButNew ({ U with vm := s.vm } : State) [] (0 + 1) (0 + 6) := ⟨e1, e2⟩
    have h3 := X.same.trans h2
    rw [List.append_nil] at h3
    exact h3.mono hc hs
  refine ⟨U, ?_, .threw T.heap.size, hrun, hend, Or.inr ⟨T.heap.size, rfl, cls, ce, locs, hx U hWs.alike f1 (fun q hq => f2 q hq (fun z hz => nomatch hz)), hce, hO.vm, hcl, hWs, hall, hf⟩⟩
  refine st1 _ ?_
  show Steps p.tables e below (T1.setTop { method := m, pc := pc + 3, locals := ls, stack := .ref T.heap.size :: rest, locked := none }) _
  jvm_step X₁.here [X₁.here.top, hexec, d3', Value.category]
  exact X₁.ldcStringW hexec (own := own) (text := text) (index := is) (a := sa) hown' hstr'.1 hstr'.2
    (g := { method := m, pc := pc + 4, locals := ls, stack := .ref T.heap.size :: .ref T.heap.size :: rest, locked := none }) rfl d4' _ hsteps
end Ends
section Bodies
variable {l : Launch}
theorem vx_ofW {y : MethodName} {ws ws' : List Cond} {rm : Room} {Pc : Array Value → State → Prop} {Qc : Array Value → State → Outcome → State → Prop} {XC : String → State → State → Prop} {mc ms : Nat} {free : Addr → Prop} {cc : ByteArray} {maxL : Nat} {ret : Option FieldType}
    (hy : plainName y.cls = true) (hw : ws = Cond.code y cc maxL ret :: ws')
    (body : ∀ p e s m args below meth c s₁, BodyLoose p l y (headSpec ws rm) cc maxL ret e s m args below meth c s₁ → c.maxLocals = maxL → (∀ x ∈ c.exceptionTable.toList, False) → Pc args s →
      W p l e (headSpec ws rm).room s m args below meth c s.heap [] 0 0 (vx_MQ below Qc XC args s mc ms free) (entryFrame m args maxL)) : vx_Met l y ws rm Pc Qc XC mc ms free := by
  refine MetFree.of_bodyS (code := cc) (maxLocals := maxL) (ret := ret) hy ?_ ?_
  · intro args s m h hn
    obtain ⟨meth, c, h1, h2, h3, h4, h5, h6, -, -⟩ := Cond.code_spec hn (atoms_spec (ws := ws) h _ (by rw [hw]; exact List.mem_cons_self))
    exact ⟨meth, c, h1, h2, h3, h4, h5, h6⟩
  · intro p e s m args below meth c s₁ B hml hP _
    have hh0 : s₁.heap = s.heap := by rw [B.state]; rfl
    have ht : ∀ x ∈ c.exceptionTable.toList, False := by
      obtain ⟨meth9, c9, h1, h2, -, -, -, -, h7, -⟩ := Cond.code_spec B.named (atoms_spec (ws := ws) B.pre _ (by rw [hw]; exact List.mem_cons_self))
      cases Option.some.inj (h1.symm.trans B.method)
      cases Option.some.inj (h2.symm.trans (Stand.of_body B).code)
      intro x hx
      rw [Array.isEmpty_iff.mp h7] at hx
      cases hx
    obtain ⟨t, a1, o, b1, b2, b3⟩ := body p e s m args below meth c s₁ B hml ht hP s₁ hh0 (Stand.of_body B)
    exact ⟨t, o, a1, b1, b2, b3⟩
/-- the table of a body with handlers -/
theorem vx_table {p : Program} {x y : MethodName} {S : Spec} {cc bytes : ByteArray} {maxL maxL' : Nat} {ret ret' : Option FieldType} {e : Env} {s s₁ : State} {m : MethodId} {args : Array Value} {below : List Frame} {meth : Method} {c : Code} {hh : List (Nat × Nat × Nat × Nat)}
    (B : BodyLoose p l y S cc maxL ret e s m args below meth c s₁) (h : (Cond.codeWith y bytes maxL' ret' hh).before args s = true) : c.exceptionTable.toList = tableOf hh := by
  obtain ⟨m9, meth9, c9, hn9, h1, h2, -, -, h6, -⟩ := Cond.codeWith_spec h
  cases Option.some.inj (hn9.symm.trans B.named)
  cases Option.some.inj (h1.symm.trans B.method)
  cases Option.some.inj (h2.symm.trans (Stand.of_body B).code)
  rw [← h6, table_eq]
end Bodies
end VXA
/-! ===== END ===== -/
/-! ===== BEGIN a static call of a method with an exception table ===== -/
section VXS
variable {p : Program} {l : Launch} {e : Env} {R : Room} {s : State} {m : MethodId} {args : Array Value} {below : List Frame} {meth : Method} {c : Code} {T : State} {H : Heap} {locs : List Loc} {cells slots : Nat}
abbrev vx_CSW (R : Room) (s : State) (args : Array Value) (own : String) (index : Nat) (y : MethodName) (bytes : ByteArray) (maxL : Nat) (ret : Option FieldType) (hh : List (Nat × Nat × Nat × Nat)) (ws : List Cond) (rm : Room) (mc ms n : Nat) : Prop :=
  (rm.cells = mc ∧ rm.slots = ms ∧ rm.frames + 1 ≤ R.frames ∧ 8 + (maxL + 11) + rm.locals ≤ R.locals ∧ (∀ w ∈ ws, ∀ (a' : Array Value) (U : State), s.WarmedH U.vm → w.before a' U = true) ∧ Cond.codeWith y bytes maxL ret hh ∈ ws) ∧
  (Cond.codeWith y bytes maxL ret hh).before args s = true ∧ (Cond.initialized y.cls).before args s = true ∧ (y.cls ≠ "java/lang/invoke/MethodHandle" ∧ y.cls ≠ "java/lang/invoke/VarHandle") ∧
  (∀ sig, parseMethodDescriptor y.desc = some sig → n = sig.parameters.length) ∧ (Cond.methodLink own index y).before args s = true ∧ (Cond.static y).before args s = true
theorem vx_cwSW {own : String} {index maxL mc ms : Nat} {y : MethodName} {bytes : ByteArray} {ret : Option FieldType} {hh : List (Nat × Nat × Nat × Nat)} {Ts ws ws' : List Cond} {rm : Room} (n : Nat) (ht : ∀ w ∈ Ts, w.before args s = true) (hT : GoodIn Ts (va_wsS own index y ws)) (hw : ws = Cond.codeWith y bytes maxL ret hh :: ws') (hrc : rm.cells = mc) (hrs : rm.slots = ms)
    (hd : y.cls ≠ "java/lang/invoke/MethodHandle" ∧ y.cls ≠ "java/lang/invoke/VarHandle" ∧ (parseMethodDescriptor y.desc).map (fun d => d.parameters.length) = some n) (hR : rm.frames + 1 ≤ R.frames ∧ 8 + (maxL + 11) + rm.locals ≤ R.locals) :
    vx_CSW R s args own index y bytes maxL ret hh ws rm mc ms n := by
  have ok : ∀ w ∈ va_wsS own index y ws, w.before args s = true := fun w h => ht w (hT w h).1
  have hG : GoodIn Ts ws := fun w h => hT w (by unfold va_wsS; exact List.mem_append_right _ h)
  have hc : Cond.codeWith y bytes maxL ret hh ∈ ws := by rw [hw]; exact List.mem_cons_self
  refine ⟨⟨hrc, hrs, hR.1, hR.2, pay_in ht hG, hc⟩, ht _ (hG _ hc).1, ok _ (by simp [va_wsS]), ⟨hd.1, hd.2.1⟩, fun sig h => ?_, ok _ (by simp [va_wsS]), ok _ (by simp [va_wsS])⟩
  have h2 := hd.2.2
  rw [h] at h2
  exact (Option.some.inj h2).symm
theorem vx_callSW (X : Stand p l e R s m args below meth c T locs cells slots) (hexec : p.tables.exec = Jvm.exec) {own : String} {index : Nat} {y : MethodName} {bytes : ByteArray} {maxL : Nat} {ret : Option FieldType} {hh : List (Nat × Nat × Nat × Nat)}
    (hown : s.vm.findClass own = some m.cls) (hlink : (Cond.methodLink own index y).before args s = true) (hstat : (Cond.static y).before args s = true) (hinit : (Cond.initialized y.cls).before args s = true)
    (hcode : (Cond.codeWith y bytes maxL ret hh).before args s = true) (hy : y.cls ≠ "java/lang/invoke/MethodHandle" ∧ y.cls ≠ "java/lang/invoke/VarHandle")
    {W9 : Nat} {Pre : Pt → Array Value → Prop} {Post : Pt → Array Value → Option Value → Pt → Prop} (hK : Back l R p e below s args y 3 W9 Pre Post)
    {g : JFrame} (hg : g.method = m) (hsize : g.locals.size = c.maxLocals) {argsL rest : List Value} (hlen : ∀ sig, parseMethodDescriptor y.desc = some sig → argsL.length = sig.parameters.length)
    (hstack : g.stack = argsL.reverse ++ rest) (hW : 2 * g.monitorRoom + (rest.map fun v => v.category).sum ≤ W9) (hdg : decode c.code g.pc = .ok (.invokestatic index, 3))
    (hpre : ∀ vm₁, s.WarmedH vm₁ → Pre ⟨T.setVm vm₁, locs, cells, slots⟩ argsL.toArray) :
    ∃ (v : Option Value) (vm₁ : Vm) (B : Pt), s.WarmedH vm₁ ∧ Stand p l e R s m args below meth c B.U B.locs B.cells B.slots ∧ Post ⟨T.setVm vm₁, locs, cells, slots⟩ argsL.toArray v B ∧
      ∀ target, Steps p.tables e below (B.U.setTop { g with pc := g.pc + 3, stack := v.toList ++ rest }) target → Steps p.tables e below (T.setTop g) target := by
  obtain ⟨mk, methM, cM, hnamed, hmethM, -, -, -, -, -, -, hsigM⟩ := Cond.codeWith_spec hcode
  have hstatic : methM.isStatic = true := Cond.static_spec hnamed hmethM hstat
  obtain ⟨kP, hkP, -⟩ := className_of_methodNamed hnamed
  have hinitP : kP.init = .initialized := Cond.initialized_spec (findClass_of_methodNamed hnamed) hkP hinit
  obtain ⟨vm₁, X₁, hstep₁⟩ := X.invokestatic hexec hown hlink hnamed hmethM hstatic hkP hinitP hy (g := g) hg (argsL := argsL) (rest := rest) (hlen _ hsigM) hstack hdg
  obtain ⟨v, B, X', hpost, hsteps⟩ := hK m meth c ⟨T.setVm vm₁, locs, cells, slots⟩ { g with stack := rest } (.invokestatic index) mk argsL.toArray X₁ hg hsize hdg hW (X₁.named hnamed) (hpre vm₁ X₁.warmed)
  exact ⟨v, vm₁, B, X₁.warmed, X', hpost, fun target h => hstep₁ _ fun acts => by rw [doInvoke_state]; exact hsteps.trans h⟩
theorem vx_runSW {y : MethodName} {bytes cc : ByteArray} {maxL nL mc ms n index : Nat} {ret : Option FieldType} {hh : List (Nat × Nat × Nat × Nat)} {ws : List Cond} {rm : Room} {Pc : Array Value → State → Prop} {Qc : Array Value → State → Outcome → State → Prop} {free : Addr → Prop} {Ts : List Cond} {own : String} {As rest : List Value} {g : JFrame}
    (S : CallFix p m c cc nL s args Ts own) (hM : Met l y ws rm Pc Qc mc ms free) (cw : vx_CSW R s args own index y bytes maxL ret hh ws rm mc ms n) (hp : PreS s H Pc As)
    (hg : g.method = m) (hn : As.length = n) (hsize : g.locals.size = nL) (hstack : g.stack = As.reverse ++ rest) (hW : 2 * g.monitorRoom + (rest.map fun v => v.category).sum ≤ 8) (hdg : decode cc g.pc = .ok (.invokestatic index, 3)) (hf : cells + mc ≤ R.cells ∧ slots + ms ≤ R.slots) :
    va_Run p l e R s m args below meth c H locs cells slots mc ms g rest (Qc As.toArray) (free) := by
  obtain ⟨⟨hrc, hrs, hfr, hlo, hws, hcw⟩, hcode, hini, hy, hlen, hl, hstt⟩ := cw
  have hK : Back l R p e below s args y 3 8 (PreOf R mc ms Pc) (PostOf Qc mc ms free) := va_backW (hh := hh) (bytes := bytes) (maxL := maxL) (ret := ret) hM hp.1 hrc hrs hfr hlo hws hcw (fun a' U hW => word_at hW (Or.inl (by first | rfl | simp [Cond.onTables, Cond.keeps, Cond.steady])) hini)
  obtain ⟨hx, hb, hml, ho, -⟩ := S
  intro T hT X
  obtain ⟨v, vm₁, ⟨U', l2, c2, s2⟩, hW₁, X', ⟨g', mk, t, L, e1, e2, hq, h1, hL, h2, h3⟩, st⟩ := vx_callSW X hx (hh := hh) (bytes := bytes) (maxL := maxL) (ret := ret) ho hl hstt hini hcode hy hK hg (hsize.trans hml.symm) (argsL := As) (rest := rest) (fun sig h => hn.trans (hlen sig h)) hstack hW (by rw [hb]; exact hdg)
    (fun vm₁ hW₁ => ⟨hf.1, hf.2, hp.2 (T.setVm vm₁) hT hW₁⟩)
  dsimp only [Pt.U, Pt.locs, Pt.cells, Pt.slots] at X' e1 e2 h1 h2 h3 st
  subst h1; subst h2; subst h3
  exact ⟨v, (T.setVm vm₁).calling g' mk As.toArray, t, U', L, hT, X', hL, e1, e2, hq, st⟩
/-- a thing of a world lies in the heap -/
theorem vx_lt {D : va_G} {cl : List vw_C} {ws : va_W} {H1 : Heap} (h : va_P D cl ws H1) {k : Nat} {q : Nat × va_E} (hk : ws[k]? = some q) : q.1 < H1.size := (h k q hk).lt
end VXS
/-! ===== END ===== -/
/-! ===== BEGIN methods with a table of their own: called by a name, returning or throwing ===== -/
section VXH
/-! vx_backW, vx_callVX, vx_callSX, vx_callVW, vx_runVW, vx_runVX, vx_runSX, vx_ofWH follow the same proofs as their sisters above (Free/Laws.lean, Shelf42/LK1.lean); vx_outP calls Shelf42/NT130.lean (outThrough). -/
section
variable {l : Launch} {R : Room} {p : Program} {e : Env} {below : List Frame} {s : State} {sargs : Array Value} {y : MethodName} {len W9 : Nat}
theorem vx_backW {ws : List Cond} {rm : Room} {Pc : Array Value → State → Prop} {Qc : Array Value → State → Outcome → State → Prop} {XC : String → State → State → Prop} {mc ms : Nat} {free : Addr → Prop} {bytes : ByteArray} {maxL : Nat} {ret : Option FieldType} {hh : List (Nat × Nat × Nat × Nat)}
    (hM : vx_Met l y ws rm Pc Qc XC mc ms free) (hblind : FrameBlind Pc) (hrc : rm.cells = mc) (hrs : rm.slots = ms)
    (hframes : rm.frames + 1 ≤ R.frames) (hlocals : W9 + (maxL + 11) + rm.locals ≤ R.locals)
    (hws : ∀ w ∈ ws, ∀ a' U, s.WarmedH U.vm → w.before a' U = true) (hcode : Cond.codeWith y bytes maxL ret hh ∈ ws) (hinit : ∀ a' U, s.WarmedH U.vm → (Cond.initialized y.cls).before a' U = true) :
    vx_Back l R p e below s sargs y len W9 (PreOf R mc ms Pc) (PostOf Qc mc ms free) (vx_Post XC mc ms free) := by
  intro m meth c A g ig mk a X hg hsize hdg hW hn hp
  have h1 : (headSpec ws rm).pre.before a A.U = true := atoms_intro fun w hw => hws w hw _ _ X.warmed
  have h2 : (Cond.codeWith y bytes maxL ret hh).before a A.U = true := hws _ hcode _ _ X.warmed
  have h3 : (Cond.initialized y.cls).before a A.U = true := hinit _ _ X.warmed
  have h4 : A.cells + (headSpec ws rm).room.cells ≤ R.cells := by rw [show (headSpec ws rm).room.cells = mc from hrc]; exact hp.1
  have h5 : A.slots + (headSpec ws rm).room.slots ≤ R.slots := by rw [show (headSpec ws rm).room.slots = ms from hrs]; exact hp.2.1
  have hPc : Pc a (A.U.calling g mk a) := hblind _ _ _ _ hp.2.2
  obtain ⟨U, Ls, c0, s0⟩ := A
  dsimp only [Pt.U, Pt.locs, Pt.cells, Pt.slots] at h1 h2 h3 h4 h5 X hn hPc ⊢
  obtain ⟨m9, methY, cY, hn9, hmY, hcY, -, hlY, -⟩ := Cond.codeWith_spec h2
  cases Option.some.inj (hn9.symm.trans hn)
  obtain ⟨kY, hkY, -⟩ := className_of_methodNamed hn
  have hinitY : kY.init = .initialized := Cond.initialized_spec (findClass_of_methodNamed hn) hkY h3
  have h : At U g.method c below := by rw [hg]; exact X.here
  have hlocals9 : W9 + (maxL + 11) + (headSpec ws rm).room.locals ≤ R.locals := hlocals
  have happ : (headSpec ws rm).appliesLoose y e.platform (U.calling g mk a) = true :=
    Spec.appliesLoose_calling (g := g) h hdg hn hkY hinitY
      (X.room_calling (g := g) (R' := (headSpec ws rm).room) hsize hmY hcY hframes (by rw [hlY]; omega) h4 h5) h1
  obtain ⟨mid, hmid⟩ := h.above
  have hfr : (U.setTop g).frames = (.java g :: mid) ++ below := by rw [State.frames_setTop' g h.top, hmid]; rfl
  obtain ⟨o, s₂, hsteps, -, hend, hq⟩ := Steps.callFree hM p X.admits X.cas X.clock (acts := []) hfr happ hPc trivial
  have hq' : vx_Q Qc XC mc ms free a (U.calling g mk a) o s₂ := hq
  rw [State.frames_setTop' g h.top] at hend
  obtain ⟨g₀, hg0⟩ := Option.isSome_iff_exists.mp h.top
  obtain ⟨r, hr⟩ := State.topJava?_eq_some.mp hg0
  have hr' : (({ U with heap := s₂.heap, slotsUsed := s₂.slotsUsed } : State).setVm s₂.vm).frames = .java g₀ :: r := hr
  rcases hq' with ⟨hqc, L, hfe, hL⟩ | ⟨q, rfl, E, ce, L, hx, hce, hcv, hcl, hW₂, hsm, hL⟩
  · obtain ⟨⟨v, rfl⟩, hW₂, e2, q2, q3, q4, q5, q6⟩ := id hfe
    have e3 : s₂ = ({ (U.calling g mk a).setFrames s₂.frames with heap := s₂.heap, slotsUsed := s₂.slotsUsed } : State).setVm s₂.vm := by
      have : s₂ = ({ s₂ with vm := (U.calling g mk a).vm } : State).setVm s₂.vm := rfl
      rw [e2] at this
      exact this
    obtain ⟨c₂, i₂, len₂, hc₂, hd₂, hf₂⟩ := hend
    have hW' : U.WarmedH s₂.vm := hW₂
    have hcc : c₂ = c := by
      have h1 : s₂.code? g.method = U.code? g.method := by
        rw [State.code?_eq, State.code?_eq, hW'.alike.method?]
      exact Option.some.inj (hc₂.symm.trans (h1.trans h.code))
    subst hcc
    have hlen : len₂ = len := by rw [hdg] at hd₂; cases hd₂; rfl
    subst hlen
    have hs₂ : s₂ = (({ U with heap := s₂.heap, slotsUsed := s₂.slotsUsed } : State).setVm s₂.vm).setTop { g with pc := g.pc + len₂, stack := v.toList ++ g.stack } := by
      refine e3.trans ?_
      rw [hf₂, State.calling_eq h.top, State.setFrames_setFrames, State.setTop_of_frames _ hr', hr]
      rfl
    have hsame : U.sameButNew ({ U with heap := s₂.heap, slotsUsed := s₂.slotsUsed } : State) L mc ms := by
      refine ⟨?_, q2, q3, q4, q5, q6⟩
      obtain ⟨t, ht, -⟩ := State.frames_cons hr
      show ({ U with heap := s₂.heap, slotsUsed := s₂.slotsUsed } : State) = { U.setFrames U.frames with heap := s₂.heap, slotsUsed := s₂.slotsUsed }
      rw [State.setFrames_self ht]
    subst hg
    refine Or.inl ⟨v, ⟨(({ U with heap := s₂.heap, slotsUsed := s₂.slotsUsed } : State).setVm s₂.vm), Ls ++ L, c0 + mc, s0 + ms⟩,
      ⟨X.admits, X.cas, X.clock, X.frames, X.room, X.hears, X.method, X.code, (X.here.setHeapUsed s₂.heap s₂.slotsUsed).setVm hW'.alike, X.tail, State.WarmedH.trans X.warmed hW', X.limits, X.bytes, X.same.trans (hsame.setVm s.vm)⟩,
      ⟨g, mk, s₂, L, rfl, rfl, hqc, rfl, hL, rfl, rfl⟩, ?_⟩
    show Steps p.tables e below _ ((({ U with heap := s₂.heap, slotsUsed := s₂.slotsUsed } : State).setVm s₂.vm).setTop { g with pc := g.pc + len₂, stack := v.toList ++ g.stack })
    rw [← hs₂]
    exact hsteps
  · obtain ⟨e2, q2, q3, q4, q5, q6⟩ := id hsm
    have e3 : s₂ = ({ (U.calling g mk a).setFrames s₂.frames with heap := s₂.heap, slotsUsed := s₂.slotsUsed } : State).setVm s₂.vm := by
      have : s₂ = ({ s₂ with vm := (U.calling g mk a).vm } : State).setVm s₂.vm := rfl
      rw [e2] at this
      exact this
    have hf₂ : s₂.frames = .throwing q :: .java g :: U.frames.tail := hend
    have hW' : U.WarmedH s₂.vm := hW₂
    have hs₂ : s₂ = ((({ U with heap := s₂.heap, slotsUsed := s₂.slotsUsed } : State).setVm s₂.vm).setTop g).pushFrame (.throwing q) := by
      refine e3.trans ?_
      rw [hf₂, State.calling_eq h.top, State.setFrames_setFrames, State.pushFrame, State.frames_setTop _ hr', State.setTop_of_frames _ hr', State.setFrames_setFrames, hr]
      rfl
    have hsame : U.sameButNew ({ U with heap := s₂.heap, slotsUsed := s₂.slotsUsed } : State) L mc ms := by
      refine ⟨?_, q2, q3, q4, q5, q6⟩
      obtain ⟨t, ht, -⟩ := State.frames_cons hr
      show ({ U with heap := s₂.heap, slotsUsed := s₂.slotsUsed } : State) = { U.setFrames U.frames with heap := s₂.heap, slotsUsed := s₂.slotsUsed }
      rw [State.setFrames_self ht]
    subst hg
    refine Or.inr ⟨q, ⟨(({ U with heap := s₂.heap, slotsUsed := s₂.slotsUsed } : State).setVm s₂.vm), Ls ++ L, c0 + mc, s0 + ms⟩,
      ⟨X.admits, X.cas, X.clock, X.frames, X.room, X.hears, X.method, X.code, (X.here.setHeapUsed s₂.heap s₂.slotsUsed).setVm hW'.alike, X.tail, State.WarmedH.trans X.warmed hW', X.limits, X.bytes, X.same.trans (hsame.setVm s.vm)⟩,
      ⟨g, mk, s₂, L, E, ce, rfl, rfl, hx, hce, hcv, hcl, rfl, hL, rfl, rfl⟩, ?_⟩
    show Steps p.tables e below _ (((({ U with heap := s₂.heap, slotsUsed := s₂.slotsUsed } : State).setVm s₂.vm).setTop g).pushFrame (.throwing q))
    rw [← hs₂]
    exact hsteps
end
variable {p : Program} {l : Launch} {e : Env} {R : Room} {s : State} {m : MethodId} {args : Array Value} {below : List Frame} {meth : Method} {c : Code} {T : State} {H : Heap} {locs : List Loc} {cells slots : Nat}
theorem vx_callVX (X : Stand p l e R s m args below meth c T locs cells slots) (hexec : p.tables.exec = Jvm.exec) {own C : String} {index : Nat} {y : MethodName} {bytes : ByteArray} {maxL : Nat} {ret : Option FieldType} {hh : List (Nat × Nat × Nat × Nat)}
    (hown : s.vm.findClass own = some m.cls) (hlink : (Cond.methodLink own index y).before args s = true) (hinst : (Cond.instanceMethod y).before args s = true) (hsel : (Cond.selects C y y).before args s = true)
    (hcode : (Cond.codeWith y bytes maxL ret hh).before args s = true) (hy : y.cls ≠ "java/lang/invoke/MethodHandle" ∧ y.cls ≠ "java/lang/invoke/VarHandle")
    {W9 : Nat} {Pre : Pt → Array Value → Prop} {Post : Pt → Array Value → Option Value → Pt → Prop} {PostX : Pt → Array Value → Addr → Pt → Prop} (hK : vx_Back l R p e below s args y 3 W9 Pre Post PostX)
    {b : Addr} {cellB : Cell} (hcell : T.heap[b]? = some cellB) (hobj : cellB.vm.isStatics = false) (hcls : s.vm.findClass C = some cellB.cls)
    {g : JFrame} (hg : g.method = m) (hsize : g.locals.size = c.maxLocals) {argsL rest : List Value} (hlen : ∀ sig, parseMethodDescriptor y.desc = some sig → argsL.length = sig.parameters.length)
    (hstack : g.stack = argsL.reverse ++ .ref b :: rest) (hW : 2 * g.monitorRoom + (rest.map fun v => v.category).sum ≤ W9) (hdg : decode c.code g.pc = .ok (.invokevirtual index, 3))
    (hpre : ∀ vm₁, s.WarmedH vm₁ → Pre ⟨T.setVm vm₁, locs, cells, slots⟩ (Value.ref b :: argsL).toArray) :
    (∃ (v : Option Value) (vm₁ : Vm) (B : Pt), s.WarmedH vm₁ ∧ Stand p l e R s m args below meth c B.U B.locs B.cells B.slots ∧ Post ⟨T.setVm vm₁, locs, cells, slots⟩ (Value.ref b :: argsL).toArray v B ∧
      ∀ target, Steps p.tables e below (B.U.setTop { g with pc := g.pc + 3, stack := v.toList ++ rest }) target → Steps p.tables e below (T.setTop g) target) ∨
    (∃ (q : Addr) (vm₁ : Vm) (B : Pt), s.WarmedH vm₁ ∧ Stand p l e R s m args below meth c B.U B.locs B.cells B.slots ∧ PostX ⟨T.setVm vm₁, locs, cells, slots⟩ (Value.ref b :: argsL).toArray q B ∧
      Steps p.tables e below (T.setTop g) ((B.U.setTop { g with stack := rest }).pushFrame (.throwing q))) := by
  obtain ⟨mk, methM, hnamed, hmethM, hstM, habM⟩ := Cond.instanceMethod_spec hinst
  obtain ⟨m8, methM', cM, hn8, hmethM', -, -, -, -, -, -, hsigM⟩ := Cond.codeWith_spec hcode
  cases Option.some.inj (hn8.symm.trans hnamed)
  cases hmethM.symm.trans hmethM'
  obtain ⟨c2, r2, m2, q1, q2, q3, q4, kP, hkP, hkPi⟩ := Cond.selects_spec hsel
  cases hcls.symm.trans q1
  cases (State.methodFound?_of_named hnamed hy).symm.trans q2
  cases hnamed.symm.trans q3
  have hselP : selectMethod e.platform s.vm cellB.cls mk = .method mk := by rw [Launch.admits_selectMethod X.admits]; exact q4
  obtain ⟨vm₁, X₁, hstep₁⟩ := X.invokevirtual hexec hown hlink hnamed hmethM hstM hkP hkPi hy (a := b) (cell := cellB) hcell
    (fun z h => by rw [h] at hobj; cases hobj) hselP hmethM habM hkP hkPi (g := g) hg (argsL := argsL) (rest := rest) (hlen _ hsigM) hstack hdg
  rcases hK m meth c ⟨T.setVm vm₁, locs, cells, slots⟩ { g with stack := rest } (.invokevirtual index) mk (Value.ref b :: argsL).toArray X₁ hg hsize hdg hW (X₁.named hnamed) (hpre vm₁ X₁.warmed) with ⟨v, B, X', hpost, hsteps⟩ | ⟨q, B, X', hpost, hsteps⟩
  · exact Or.inl ⟨v, vm₁, B, X₁.warmed, X', hpost, fun target h => hstep₁ _ fun acts => by rw [doInvoke_state]; exact hsteps.trans h⟩
  · exact Or.inr ⟨q, vm₁, B, X₁.warmed, X', hpost, hstep₁ _ fun acts => by rw [doInvoke_state]; exact hsteps⟩
theorem vx_callSX (X : Stand p l e R s m args below meth c T locs cells slots) (hexec : p.tables.exec = Jvm.exec) {own : String} {index : Nat} {y : MethodName} {bytes : ByteArray} {maxL : Nat} {ret : Option FieldType} {hh : List (Nat × Nat × Nat × Nat)}
    (hown : s.vm.findClass own = some m.cls) (hlink : (Cond.methodLink own index y).before args s = true) (hstat : (Cond.static y).before args s = true) (hinit : (Cond.initialized y.cls).before args s = true)
    (hcode : (Cond.codeWith y bytes maxL ret hh).before args s = true) (hy : y.cls ≠ "java/lang/invoke/MethodHandle" ∧ y.cls ≠ "java/lang/invoke/VarHandle")
    {W9 : Nat} {Pre : Pt → Array Value → Prop} {Post : Pt → Array Value → Option Value → Pt → Prop} {PostX : Pt → Array Value → Addr → Pt → Prop} (hK : vx_Back l R p e below s args y 3 W9 Pre Post PostX)
    {g : JFrame} (hg : g.method = m) (hsize : g.locals.size = c.maxLocals) {argsL rest : List Value} (hlen : ∀ sig, parseMethodDescriptor y.desc = some sig → argsL.length = sig.parameters.length)
    (hstack : g.stack = argsL.reverse ++ rest) (hW : 2 * g.monitorRoom + (rest.map fun v => v.category).sum ≤ W9) (hdg : decode c.code g.pc = .ok (.invokestatic index, 3))
    (hpre : ∀ vm₁, s.WarmedH vm₁ → Pre ⟨T.setVm vm₁, locs, cells, slots⟩ argsL.toArray) :
    (∃ (v : Option Value) (vm₁ : Vm) (B : Pt), s.WarmedH vm₁ ∧ Stand p l e R s m args below meth c B.U B.locs B.cells B.slots ∧ Post ⟨T.setVm vm₁, locs, cells, slots⟩ argsL.toArray v B ∧
      ∀ target, Steps p.tables e below (B.U.setTop { g with pc := g.pc + 3, stack := v.toList ++ rest }) target → Steps p.tables e below (T.setTop g) target) ∨
    (∃ (q : Addr) (vm₁ : Vm) (B : Pt), s.WarmedH vm₁ ∧ Stand p l e R s m args below meth c B.U B.locs B.cells B.slots ∧ PostX ⟨T.setVm vm₁, locs, cells, slots⟩ argsL.toArray q B ∧
      Steps p.tables e below (T.setTop g) ((B.U.setTop { g with stack := rest }).pushFrame (.throwing q))) := by
  obtain ⟨mk, methM, cM, hnamed, hmethM, -, -, -, -, -, -, hsigM⟩ := Cond.codeWith_spec hcode
  have hstatic : methM.isStatic = true := Cond.static_spec hnamed hmethM hstat
  obtain ⟨kP, hkP, -⟩ := className_of_methodNamed hnamed
  have hinitP : kP.init = .initialized := Cond.initialized_spec (findClass_of_methodNamed hnamed) hkP hinit
  obtain ⟨vm₁, X₁, hstep₁⟩ := X.invokestatic hexec hown hlink hnamed hmethM hstatic hkP hinitP hy (g := g) hg (argsL := argsL) (rest := rest) (hlen _ hsigM) hstack hdg
  rcases hK m meth c ⟨T.setVm vm₁, locs, cells, slots⟩ { g with stack := rest } (.invokestatic index) mk argsL.toArray X₁ hg hsize hdg hW (X₁.named hnamed) (hpre vm₁ X₁.warmed) with ⟨v, B, X', hpost, hsteps⟩ | ⟨q, B, X', hpost, hsteps⟩
  · exact Or.inl ⟨v, vm₁, B, X₁.warmed, X', hpost, fun target h => hstep₁ _ fun acts => by rw [doInvoke_state]; exact hsteps.trans h⟩
  · exact Or.inr ⟨q, vm₁, B, X₁.warmed, X', hpost, hstep₁ _ fun acts => by rw [doInvoke_state]; exact hsteps⟩
theorem vx_callVW (X : Stand p l e R s m args below meth c T locs cells slots) (hexec : p.tables.exec = Jvm.exec) {own C : String} {index : Nat} {y : MethodName} {bytes : ByteArray} {maxL : Nat} {ret : Option FieldType} {hh : List (Nat × Nat × Nat × Nat)}
    (hown : s.vm.findClass own = some m.cls) (hlink : (Cond.methodLink own index y).before args s = true) (hinst : (Cond.instanceMethod y).before args s = true) (hsel : (Cond.selects C y y).before args s = true)
    (hcode : (Cond.codeWith y bytes maxL ret hh).before args s = true) (hy : y.cls ≠ "java/lang/invoke/MethodHandle" ∧ y.cls ≠ "java/lang/invoke/VarHandle")
    {W9 : Nat} {Pre : Pt → Array Value → Prop} {Post : Pt → Array Value → Option Value → Pt → Prop} (hK : Back l R p e below s args y 3 W9 Pre Post)
    {b : Addr} {cellB : Cell} (hcell : T.heap[b]? = some cellB) (hobj : cellB.vm.isStatics = false) (hcls : s.vm.findClass C = some cellB.cls)
    {g : JFrame} (hg : g.method = m) (hsize : g.locals.size = c.maxLocals) {argsL rest : List Value} (hlen : ∀ sig, parseMethodDescriptor y.desc = some sig → argsL.length = sig.parameters.length)
    (hstack : g.stack = argsL.reverse ++ .ref b :: rest) (hW : 2 * g.monitorRoom + (rest.map fun v => v.category).sum ≤ W9) (hdg : decode c.code g.pc = .ok (.invokevirtual index, 3))
    (hpre : ∀ vm₁, s.WarmedH vm₁ → Pre ⟨T.setVm vm₁, locs, cells, slots⟩ (Value.ref b :: argsL).toArray) :
    ∃ (v : Option Value) (vm₁ : Vm) (B : Pt), s.WarmedH vm₁ ∧ Stand p l e R s m args below meth c B.U B.locs B.cells B.slots ∧ Post ⟨T.setVm vm₁, locs, cells, slots⟩ (Value.ref b :: argsL).toArray v B ∧
      ∀ target, Steps p.tables e below (B.U.setTop { g with pc := g.pc + 3, stack := v.toList ++ rest }) target → Steps p.tables e below (T.setTop g) target := by
  obtain ⟨mk, methM, hnamed, hmethM, hstM, habM⟩ := Cond.instanceMethod_spec hinst
  obtain ⟨m8, methM', cM, hn8, hmethM', -, -, -, -, -, -, hsigM⟩ := Cond.codeWith_spec hcode
  cases Option.some.inj (hn8.symm.trans hnamed)
  cases hmethM.symm.trans hmethM'
  obtain ⟨c2, r2, m2, q1, q2, q3, q4, kP, hkP, hkPi⟩ := Cond.selects_spec hsel
  cases hcls.symm.trans q1
  cases (State.methodFound?_of_named hnamed hy).symm.trans q2
  cases hnamed.symm.trans q3
  have hselP : selectMethod e.platform s.vm cellB.cls mk = .method mk := by rw [Launch.admits_selectMethod X.admits]; exact q4
  obtain ⟨vm₁, X₁, hstep₁⟩ := X.invokevirtual hexec hown hlink hnamed hmethM hstM hkP hkPi hy (a := b) (cell := cellB) hcell
    (fun z h => by rw [h] at hobj; cases hobj) hselP hmethM habM hkP hkPi (g := g) hg (argsL := argsL) (rest := rest) (hlen _ hsigM) hstack hdg
  obtain ⟨v, B, X', hpost, hsteps⟩ := hK m meth c ⟨T.setVm vm₁, locs, cells, slots⟩ { g with stack := rest } (.invokevirtual index) mk (Value.ref b :: argsL).toArray X₁ hg hsize hdg hW (X₁.named hnamed) (hpre vm₁ X₁.warmed)
  exact ⟨v, vm₁, B, X₁.warmed, X', hpost, fun target h => hstep₁ _ fun acts => by rw [doInvoke_state]; exact hsteps.trans h⟩
abbrev vx_CVW (R : Room) (s : State) (args : Array Value) (own C : String) (index : Nat) (y : MethodName) (bytes : ByteArray) (maxL : Nat) (ret : Option FieldType) (hh : List (Nat × Nat × Nat × Nat)) (ws : List Cond) (rm : Room) (mc ms n : Nat) : Prop :=
  (rm.cells = mc ∧ rm.slots = ms ∧ rm.frames + 1 ≤ R.frames ∧ 8 + (maxL + 11) + rm.locals ≤ R.locals ∧ (∀ w ∈ ws, ∀ (a' : Array Value) (U : State), s.WarmedH U.vm → w.before a' U = true) ∧ Cond.codeWith y bytes maxL ret hh ∈ ws) ∧
  (Cond.codeWith y bytes maxL ret hh).before args s = true ∧ (Cond.initialized y.cls).before args s = true ∧ (y.cls ≠ "java/lang/invoke/MethodHandle" ∧ y.cls ≠ "java/lang/invoke/VarHandle") ∧
  (∀ sig, parseMethodDescriptor y.desc = some sig → n = sig.parameters.length) ∧ (Cond.methodLink own index y).before args s = true ∧ (Cond.instanceMethod y).before args s = true ∧ (Cond.selects C y y).before args s = true
theorem vx_cwVW {own C : String} {index maxL mc ms : Nat} {y : MethodName} {bytes : ByteArray} {ret : Option FieldType} {hh : List (Nat × Nat × Nat × Nat)} {Ts ws ws' : List Cond} {rm : Room} (n : Nat) (ht : ∀ w ∈ Ts, w.before args s = true) (hT : GoodIn Ts (wsV own index C y ws)) (hw : ws = Cond.codeWith y bytes maxL ret hh :: ws') (hrc : rm.cells = mc) (hrs : rm.slots = ms)
    (hd : y.cls = C ∧ y.cls ≠ "java/lang/invoke/MethodHandle" ∧ y.cls ≠ "java/lang/invoke/VarHandle" ∧ (parseMethodDescriptor y.desc).map (fun d => d.parameters.length) = some n) (hR : rm.frames + 1 ≤ R.frames ∧ 8 + (maxL + 11) + rm.locals ≤ R.locals) :
    vx_CVW R s args own C index y bytes maxL ret hh ws rm mc ms n := by
  obtain ⟨hC, hd⟩ := hd
  subst hC
  have ok : ∀ w ∈ wsV own index y.cls y ws, w.before args s = true := fun w h => ht w (hT w h).1
  have hG : GoodIn Ts ws := fun w h => hT w (by unfold wsV; exact List.mem_append_right _ h)
  have hc : Cond.codeWith y bytes maxL ret hh ∈ ws := by rw [hw]; exact List.mem_cons_self
  refine ⟨⟨hrc, hrs, hR.1, hR.2, pay_in ht hG, hc⟩, ht _ (hG _ hc).1, ok _ (by simp [wsV]), ⟨hd.1, hd.2.1⟩, fun sig h => ?_, ok _ (by simp [wsV]), ok _ (by simp [wsV]), ok _ (by simp [wsV])⟩
  have h2 := hd.2.2
  rw [h] at h2
  exact (Option.some.inj h2).symm
theorem vx_runVW {y : MethodName} {bytes cc : ByteArray} {maxL nL mc ms n index : Nat} {ret : Option FieldType} {hh : List (Nat × Nat × Nat × Nat)} {ws : List Cond} {rm : Room} {Pc : Array Value → State → Prop} {Qc : Array Value → State → Outcome → State → Prop} {free : Addr → Prop} {Ts : List Cond} {own C : String} {b : Addr} {As rest : List Value} {g : JFrame}
    (S : CallFix p m c cc nL s args Ts own) (hM : Met l y ws rm Pc Qc mc ms free) (cw : vx_CVW R s args own C index y bytes maxL ret hh ws rm mc ms n) (hp : PreV s H C b Pc As)
    (hg : g.method = m) (hn : As.length = n) (hsize : g.locals.size = nL) (hstack : g.stack = As.reverse ++ .ref b :: rest) (hW : 2 * g.monitorRoom + (rest.map fun v => v.category).sum ≤ 8) (hdg : decode cc g.pc = .ok (.invokevirtual index, 3)) (hf : cells + mc ≤ R.cells ∧ slots + ms ≤ R.slots) :
    va_Run p l e R s m args below meth c H locs cells slots mc ms g rest (Qc (Value.ref b :: As).toArray) free := by
  obtain ⟨⟨hrc, hrs, hfr, hlo, hws, hcw⟩, hcode, hini, hy, hlen, hl, hin, hse⟩ := cw
  have hK : Back l R p e below s args y 3 8 (PreOf R mc ms Pc) (PostOf Qc mc ms free) := va_backW (hh := hh) (bytes := bytes) (maxL := maxL) (ret := ret) hM hp.1 hrc hrs hfr hlo hws hcw (fun a' U hW => word_at hW (Or.inl (by first | rfl | simp [Cond.onTables, Cond.keeps, Cond.steady])) hini)
  obtain ⟨hx, hb, hml, ho, -⟩ := S
  obtain ⟨-, ⟨cellB, hcB, hoB, hclB⟩, hPc⟩ := hp
  intro T hT X
  obtain ⟨v, vm₁, ⟨U', l2, c2, s2⟩, hW₁, X', ⟨g', mk, t, L, e1, e2, hq, h1, hL, h2, h3⟩, st⟩ := vx_callVW X hx (C := C) (hh := hh) (bytes := bytes) (maxL := maxL) (ret := ret) ho hl hin hse hcode hy hK (by rw [hT]; exact hcB) hoB hclB hg (hsize.trans hml.symm) (argsL := As) (rest := rest) (fun sig h => hn.trans (hlen sig h)) hstack hW (by rw [hb]; exact hdg)
    (fun vm₁ hW₁ => ⟨hf.1, hf.2, hPc (T.setVm vm₁) hT hW₁⟩)
  dsimp only [Pt.U, Pt.locs, Pt.cells, Pt.slots] at X' e1 e2 h1 h2 h3 st
  subst h1; subst h2; subst h3
  exact ⟨v, (T.setVm vm₁).calling g' mk (Value.ref b :: As).toArray, t, U', L, hT, X', hL, e1, e2, hq, st⟩
section
variable {y : MethodName} {bytes cc : ByteArray} {maxL nL mc ms n index : Nat} {ret : Option FieldType} {ws : List Cond} {rm : Room} {Pc : Array Value → State → Prop} {Qc : Array Value → State → Outcome → State → Prop} {XC : String → State → State → Prop} {free : Addr → Prop} {Ts : List Cond} {own C : String} {b : Addr} {As rest : List Value} {g : JFrame}
theorem vx_runVX {hh : List (Nat × Nat × Nat × Nat)} (S : CallFix p m c cc nL s args Ts own) (hM : vx_Met l y ws rm Pc Qc XC mc ms free) (cw : vx_CVW R s args own C index y bytes maxL ret hh ws rm mc ms n) (hp : PreV s H C b Pc As)
    (hg : g.method = m) (hn : As.length = n) (hsize : g.locals.size = nL) (hstack : g.stack = As.reverse ++ .ref b :: rest) (hW : 2 * g.monitorRoom + (rest.map fun v => v.category).sum ≤ 8) (hdg : decode cc g.pc = .ok (.invokevirtual index, 3)) (hf : cells + mc ≤ R.cells ∧ slots + ms ≤ R.slots) :
    vx_Run p l e R s m args below meth c H locs cells slots mc ms g rest (Qc (Value.ref b :: As).toArray) XC free := by
  obtain ⟨⟨hrc, hrs, hfr, hlo, hws, hcw⟩, hcode, hini, hy, hlen, hl, hin, hse⟩ := cw
  have hK : vx_Back l R p e below s args y 3 8 (PreOf R mc ms Pc) (PostOf Qc mc ms free) (vx_Post XC mc ms free) := vx_backW (hh := hh) (bytes := bytes) (maxL := maxL) (ret := ret) hM hp.1 hrc hrs hfr hlo hws hcw (fun a' U hW => word_at hW (Or.inl (by first | rfl | simp [Cond.onTables, Cond.keeps, Cond.steady])) hini)
  obtain ⟨hx, hb, hml, ho, -⟩ := S
  obtain ⟨-, ⟨cellB, hcB, hoB, hclB⟩, hPc⟩ := hp
  intro T hT X
  rcases vx_callVX X hx (C := C) (hh := hh) (bytes := bytes) (maxL := maxL) (ret := ret) ho hl hin hse hcode hy hK (by rw [hT]; exact hcB) hoB hclB hg (hsize.trans hml.symm) (argsL := As) (rest := rest) (fun sig h => hn.trans (hlen sig h)) hstack hW (by rw [hb]; exact hdg)
    (fun vm₁ hW₁ => ⟨hf.1, hf.2, hPc (T.setVm vm₁) hT hW₁⟩) with ⟨v, vm₁, ⟨U', l2, c2, s2⟩, hW₁, X', ⟨g', mk, t, L, e1, e2, hq, h1, hL, h2, h3⟩, st⟩ | ⟨q, vm₁, ⟨U', l2, c2, s2⟩, hW₁, X', ⟨g', mk, t, L, E, ce, e1, e2, hq, hce, hcv, hcl, h1, hL, h2, h3⟩, st⟩
  · dsimp only [Pt.U, Pt.locs, Pt.cells, Pt.slots] at X' e1 e2 h1 h2 h3 st
    subst h1; subst h2; subst h3
    exact Or.inl ⟨v, (T.setVm vm₁).calling g' mk (Value.ref b :: As).toArray, t, U', L, hT, X', hL, e1, e2, hq, st⟩
  · dsimp only [Pt.U, Pt.locs, Pt.cells, Pt.slots] at X' e1 e2 h1 h2 h3 st hcl
    subst h1; subst h2; subst h3
    exact Or.inr ⟨q, (T.setVm vm₁).calling g' mk (Value.ref b :: As).toArray, t, U', L, E, ce, hT, X', hL, e1, e2, hq, hce, hcv, vx_cls hW₁ hcl, st⟩
theorem vx_runSX {hh : List (Nat × Nat × Nat × Nat)} (S : CallFix p m c cc nL s args Ts own) (hM : vx_Met l y ws rm Pc Qc XC mc ms free) (cw : vx_CSW R s args own index y bytes maxL ret hh ws rm mc ms n) (hp : PreS s H Pc As)
    (hg : g.method = m) (hn : As.length = n) (hsize : g.locals.size = nL) (hstack : g.stack = As.reverse ++ rest) (hW : 2 * g.monitorRoom + (rest.map fun v => v.category).sum ≤ 8) (hdg : decode cc g.pc = .ok (.invokestatic index, 3)) (hf : cells + mc ≤ R.cells ∧ slots + ms ≤ R.slots) :
    vx_Run p l e R s m args below meth c H locs cells slots mc ms g rest (Qc As.toArray) XC free := by
  obtain ⟨⟨hrc, hrs, hfr, hlo, hws, hcw⟩, hcode, hini, hy, hlen, hl, hstt⟩ := cw
  have hK : vx_Back l R p e below s args y 3 8 (PreOf R mc ms Pc) (PostOf Qc mc ms free) (vx_Post XC mc ms free) := vx_backW (hh := hh) (bytes := bytes) (maxL := maxL) (ret := ret) hM hp.1 hrc hrs hfr hlo hws hcw (fun a' U hW => word_at hW (Or.inl (by first | rfl | simp [Cond.onTables, Cond.keeps, Cond.steady])) hini)
  obtain ⟨hx, hb, hml, ho, -⟩ := S
  intro T hT X
  rcases vx_callSX X hx (hh := hh) (bytes := bytes) (maxL := maxL) (ret := ret) ho hl hstt hini hcode hy hK hg (hsize.trans hml.symm) (argsL := As) (rest := rest) (fun sig h => hn.trans (hlen sig h)) hstack hW (by rw [hb]; exact hdg)
    (fun vm₁ hW₁ => ⟨hf.1, hf.2, hp.2 (T.setVm vm₁) hT hW₁⟩) with ⟨v, vm₁, ⟨U', l2, c2, s2⟩, hW₁, X', ⟨g', mk, t, L, e1, e2, hq, h1, hL, h2, h3⟩, st⟩ | ⟨q, vm₁, ⟨U', l2, c2, s2⟩, hW₁, X', ⟨g', mk, t, L, E, ce, e1, e2, hq, hce, hcv, hcl, h1, hL, h2, h3⟩, st⟩
  · dsimp only [Pt.U, Pt.locs, Pt.cells, Pt.slots] at X' e1 e2 h1 h2 h3 st
    subst h1; subst h2; subst h3
    exact Or.inl ⟨v, (T.setVm vm₁).calling g' mk As.toArray, t, U', L, hT, X', hL, e1, e2, hq, st⟩
  · dsimp only [Pt.U, Pt.locs, Pt.cells, Pt.slots] at X' e1 e2 h1 h2 h3 st hcl
    subst h1; subst h2; subst h3
    exact Or.inr ⟨q, (T.setVm vm₁).calling g' mk As.toArray, t, U', L, E, ce, hT, X', hL, e1, e2, hq, hce, hcv, vx_cls hW₁ hcl, st⟩
end
end VXH
theorem vx_ofWH {l : Launch} {y : MethodName} {ws ws' : List Cond} {rm : Room} {Pc : Array Value → State → Prop} {Qc : Array Value → State → Outcome → State → Prop} {XC : String → State → State → Prop} {mc ms : Nat} {free : Addr → Prop} {cc : ByteArray} {maxL : Nat} {ret : Option FieldType} {hh : List (Nat × Nat × Nat × Nat)}
    (hy : plainName y.cls = true) (hw : ws = Cond.codeWith y cc maxL ret hh :: ws')
    (body : ∀ p e s m args below meth c s₁, BodyLoose p l y (headSpec ws rm) cc maxL ret e s m args below meth c s₁ → c.maxLocals = maxL → Pc args s →
      W p l e (headSpec ws rm).room s m args below meth c s.heap [] 0 0 (vx_MQ below Qc XC args s mc ms free) (entryFrame m args maxL)) : vx_Met l y ws rm Pc Qc XC mc ms free := by
  refine MetFree.of_bodyS (code := cc) (maxLocals := maxL) (ret := ret) hy ?_ ?_
  · intro args s m h hn
    obtain ⟨m9, meth, c, hn9, h1, h2, h3, h4, -, h5, h6, -⟩ := Cond.codeWith_spec (atoms_spec (ws := ws) h _ (by rw [hw]; exact List.mem_cons_self))
    cases hn.symm.trans hn9
    exact ⟨meth, c, h1, h2, h3, h4, h5, h6⟩
  · intro p e s m args below meth c s₁ B hml hP _
    have hh0 : s₁.heap = s.heap := by rw [B.state]; rfl
    obtain ⟨t, a1, o, b1, b2, b3⟩ := body p e s m args below meth c s₁ B hml hP s₁ hh0 (Stand.of_body B)
    exact ⟨t, o, a1, b1, b2, b3⟩
/-! ===== END ===== -/

/-! ===== BEGIN printed: names, fields, word lists, decode rows ===== -/
end
section
def RX0 : String := "LetterCounts$CountSet"
def TX0 : u_T := fun k => match k with
  | _ => ("LetterCounts$CountSet", "planes", "[J", true)
def tyX0 : Nat → FieldType := fun k => match k with
  | _ => .array .long
theorem nmX0 : ∀ a, a < 1 → ∀ b, b < 1 → a ≠ b → (TX0 a).2.1 ≠ (TX0 b).2.1 := by decide +kernel
theorem tyX0_ok : ∀ k, k < 1 → parseFieldDescriptor (TX0 k).2.2.1 = some (tyX0 k) := by decide +kernel
abbrev cX0_init : ByteArray := prog_2_method_1_code
def yX0_init : MethodName := ⟨RX0, "<init>", "()V"⟩
abbrev cX0_empty : ByteArray := prog_2_method_2_code
def yX0_empty : MethodName := ⟨RX0, "empty", "()V"⟩
abbrev cX0_isEmpty : ByteArray := prog_2_method_3_code
def yX0_isEmpty : MethodName := ⟨RX0, "isEmpty", "()Z"⟩
abbrev cX0_size : ByteArray := prog_2_method_4_code
def yX0_size : MethodName := ⟨RX0, "size", "()I"⟩
abbrev cX0_holds : ByteArray := prog_2_method_5_code
def yX0_holds : MethodName := ⟨RX0, "holds", "(I)Z"⟩
abbrev cX0_add : ByteArray := prog_2_method_6_code
def yX0_add : MethodName := ⟨RX0, "add", "(I)V"⟩
abbrev cX0_at : ByteArray := prog_2_method_7_code
def yX0_at : MethodName := ⟨RX0, "at", "(I)I"⟩
abbrev cX0_become : ByteArray := prog_2_method_8_code
def yX0_become : MethodName := ⟨RX0, "become", "(LLetterCounts$CountSet;)V"⟩
abbrev cX0_addAll : ByteArray := prog_2_method_9_code
def yX0_addAll : MethodName := ⟨RX0, "addAll", "(LLetterCounts$CountSet;)V"⟩
abbrev cX0_removeAll : ByteArray := prog_2_method_10_code
def yX0_removeAll : MethodName := ⟨RX0, "removeAll", "(LLetterCounts$CountSet;)V"⟩
abbrev cX0_addSums : ByteArray := prog_2_method_11_code
def yX0_addSums : MethodName := ⟨RX0, "addSums", "(LLetterCounts$CountSet;LLetterCounts$CountSet;)V"⟩
abbrev cX0_addMoved : ByteArray := prog_2_method_12_code
def yX0_addMoved : MethodName := ⟨RX0, "addMoved", "(LLetterCounts$CountSet;II)V"⟩
def RX1 : String := "LetterCounts$End"
def TX1 : u_T := fun k => match k with
  | 0 => ("LetterCounts$End", "all", "LLetterCounts$CountSet;", true)
  | 1 => ("LetterCounts$End", "newest", "LLetterCounts$CountSet;", true)
  | _ => ("LetterCounts$End", "rounds", "[I", true)
def tyX1 : Nat → FieldType := fun k => match k with
  | 0 => .object "LetterCounts$CountSet"
  | 1 => .object "LetterCounts$CountSet"
  | _ => .array .int
theorem nmX1 : ∀ a, a < 3 → ∀ b, b < 3 → a ≠ b → (TX1 a).2.1 ≠ (TX1 b).2.1 := by decide +kernel
theorem tyX1_ok : ∀ k, k < 3 → parseFieldDescriptor (TX1 k).2.2.1 = some (tyX1 k) := by decide +kernel
abbrev cX1_init : ByteArray := prog_3_method_1_code
def yX1_init : MethodName := ⟨RX1, "<init>", "()V"⟩
abbrev cX1_forget : ByteArray := prog_3_method_2_code
def yX1_forget : MethodName := ⟨RX1, "forget", "()V"⟩
abbrev cX1_growLetters : ByteArray := prog_3_method_3_code
def yX1_growLetters : MethodName := ⟨RX1, "growLetters", "(II)V"⟩
abbrev cX1_grow : ByteArray := prog_3_method_4_code
def yX1_grow : MethodName := ⟨RX1, "grow", "(LLetterCounts$Nonterminal;LLetterCounts$End;I)V"⟩
abbrev cX1_takeNewest : ByteArray := prog_3_method_5_code
def yX1_takeNewest : MethodName := ⟨RX1, "takeNewest", "(I)V"⟩
def RX2 : String := "LetterCounts$Nonterminal"
def TX2 : u_T := fun k => match k with
  | 0 => ("LetterCounts$Nonterminal", "had", "LLetterCounts$CountSet;", true)
  | 1 => ("LetterCounts$Nonterminal", "newest", "LLetterCounts$CountSet;", true)
  | 2 => ("LetterCounts$Nonterminal", "found", "LLetterCounts$CountSet;", true)
  | 3 => ("LetterCounts$Nonterminal", "heights", "[I", true)
  | _ => ("LetterCounts$Nonterminal", "roots", "[I", true)
def tyX2 : Nat → FieldType := fun k => match k with
  | 0 => .object "LetterCounts$CountSet"
  | 1 => .object "LetterCounts$CountSet"
  | 2 => .object "LetterCounts$CountSet"
  | 3 => .array .int
  | _ => .array .int
theorem nmX2 : ∀ a, a < 5 → ∀ b, b < 5 → a ≠ b → (TX2 a).2.1 ≠ (TX2 b).2.1 := by decide +kernel
theorem tyX2_ok : ∀ k, k < 5 → parseFieldDescriptor (TX2 k).2.2.1 = some (tyX2 k) := by decide +kernel
abbrev cX2_init : ByteArray := prog_4_method_1_code
def yX2_init : MethodName := ⟨RX2, "<init>", "()V"⟩
abbrev cX2_forget : ByteArray := prog_4_method_2_code
def yX2_forget : MethodName := ⟨RX2, "forget", "()V"⟩
abbrev cX2_find : ByteArray := prog_4_method_3_code
def yX2_find : MethodName := ⟨RX2, "find", "(LLetterCounts$CountSet;II)V"⟩
abbrev cX2_endRound : ByteArray := prog_4_method_4_code
def yX2_endRound : MethodName := ⟨RX2, "endRound", "()V"⟩
def RX3 : String := "LetterCounts$Rule"
def TX3 : u_T := fun k => match k with
  | 0 => ("LetterCounts$Rule", "left", "I", false)
  | 1 => ("LetterCounts$Rule", "uses", "I", false)
  | 2 => ("LetterCounts$Rule", "letterCount", "I", false)
  | 3 => ("LetterCounts$Rule", "size", "I", false)
  | 4 => ("LetterCounts$Rule", "parts", "[I", true)
  | _ => ("LetterCounts$Rule", "ends", "[LLetterCounts$End;", true)
def tyX3 : Nat → FieldType := fun k => match k with
  | 0 => .int
  | 1 => .int
  | 2 => .int
  | 3 => .int
  | 4 => .array .int
  | _ => .array (.object "LetterCounts$End")
theorem nmX3 : ∀ a, a < 6 → ∀ b, b < 6 → a ≠ b → (TX3 a).2.1 ≠ (TX3 b).2.1 := by decide +kernel
theorem tyX3_ok : ∀ k, k < 6 → parseFieldDescriptor (TX3 k).2.2.1 = some (tyX3 k) := by decide +kernel
abbrev cX3_init : ByteArray := prog_5_method_1_code
def yX3_init : MethodName := ⟨RX3, "<init>", "()V"⟩
abbrev cX3_begin : ByteArray := prog_5_method_2_code
def yX3_begin : MethodName := ⟨RX3, "begin", "(I)V"⟩
abbrev cX3_append : ByteArray := prog_5_method_3_code
def yX3_append : MethodName := ⟨RX3, "append", "(I)V"⟩
abbrev cX3_lettersOf : ByteArray := prog_5_method_4_code
def yX3_lettersOf : MethodName := ⟨RX3, "lettersOf", "(I)I"⟩
abbrev cX3_timesOf : ByteArray := prog_5_method_5_code
def yX3_timesOf : MethodName := ⟨RX3, "timesOf", "(I)I"⟩
abbrev cX3_nonterminalBits : ByteArray := prog_5_method_6_code
def yX3_nonterminalBits : MethodName := ⟨RX3, "nonterminalBits", "()I"⟩
abbrev cX3_forget : ByteArray := prog_5_method_7_code
def yX3_forget : MethodName := ⟨RX3, "forget", "()V"⟩
abbrev cX3_grow : ByteArray := prog_5_method_8_code
def yX3_grow : MethodName := ⟨RX3, "grow", "([LLetterCounts$Nonterminal;I)V"⟩
abbrev cX3_newestCounts : ByteArray := prog_5_method_9_code
def yX3_newestCounts : MethodName := ⟨RX3, "newestCounts", "()LLetterCounts$CountSet;"⟩
abbrev cX3_split : ByteArray := prog_5_method_10_code
def yX3_split : MethodName := ⟨RX3, "split", "([LLetterCounts$Nonterminal;II[I)V"⟩
abbrev cX3_canBegin : ByteArray := prog_5_method_11_code
def yX3_canBegin : MethodName := ⟨RX3, "canBegin", "(IILLetterCounts$Nonterminal;LLetterCounts$End;I)Z"⟩
def RX4 : String := "LetterCounts$Walk"
def TX4 : u_T := fun k => match k with
  | 0 => ("LetterCounts$Walk", "steps", "[I", true)
  | 1 => ("LetterCounts$Walk", "uses", "[I", true)
  | 2 => ("LetterCounts$Walk", "size", "I", false)
  | 3 => ("LetterCounts$Walk", "openNonterminals", "[I", true)
  | 4 => ("LetterCounts$Walk", "openCounts", "[I", true)
  | 5 => ("LetterCounts$Walk", "open", "I", false)
  | _ => ("LetterCounts$Walk", "below", "[I", true)
def tyX4 : Nat → FieldType := fun k => match k with
  | 0 => .array .int
  | 1 => .array .int
  | 2 => .int
  | 3 => .array .int
  | 4 => .array .int
  | 5 => .int
  | _ => .array .int
theorem nmX4 : ∀ a, a < 7 → ∀ b, b < 7 → a ≠ b → (TX4 a).2.1 ≠ (TX4 b).2.1 := by decide +kernel
theorem tyX4_ok : ∀ k, k < 7 → parseFieldDescriptor (TX4 k).2.2.1 = some (tyX4 k) := by decide +kernel
abbrev cX4_init : ByteArray := prog_6_method_1_code
def yX4_init : MethodName := ⟨RX4, "<init>", "()V"⟩
abbrev cX4_through : ByteArray := prog_6_method_2_code
def yX4_through : MethodName := ⟨RX4, "through", "([LLetterCounts$Nonterminal;[LLetterCounts$Rule;II)Z"⟩
abbrev cX4_openBelow : ByteArray := prog_6_method_3_code
def yX4_openBelow : MethodName := ⟨RX4, "openBelow", "(LLetterCounts$Rule;)V"⟩
abbrev cX4_openTree : ByteArray := prog_6_method_4_code
def yX4_openTree : MethodName := ⟨RX4, "openTree", "(II)V"⟩
def RX5 : String := "LetterCounts"
def TX5 : u_T := fun k => match k with
  | 0 => ("LetterCounts", "nonterminals", "[LLetterCounts$Nonterminal;", true)
  | 1 => ("LetterCounts", "rules", "[LLetterCounts$Rule;", true)
  | 2 => ("LetterCounts", "made", "I", false)
  | 3 => ("LetterCounts", "stale", "Z", false)
  | 4 => ("LetterCounts", "steps", "[I", true)
  | 5 => ("LetterCounts", "stepsMade", "I", false)
  | _ => ("LetterCounts", "walk", "LLetterCounts$Walk;", true)
def tyX5 : Nat → FieldType := fun k => match k with
  | 0 => .array (.object "LetterCounts$Nonterminal")
  | 1 => .array (.object "LetterCounts$Rule")
  | 2 => .int
  | 3 => .boolean
  | 4 => .array .int
  | 5 => .int
  | _ => .object "LetterCounts$Walk"
theorem nmX5 : ∀ a, a < 7 → ∀ b, b < 7 → a ≠ b → (TX5 a).2.1 ≠ (TX5 b).2.1 := by decide +kernel
theorem tyX5_ok : ∀ k, k < 7 → parseFieldDescriptor (TX5 k).2.2.1 = some (tyX5 k) := by decide +kernel
abbrev cX5_init : ByteArray := prog_1_method_1_code
def yX5_init : MethodName := ⟨RX5, "<init>", "()V"⟩
abbrev cX5_rule : ByteArray := prog_1_method_2_code
def yX5_rule : MethodName := ⟨RX5, "rule", "(IIIII)I"⟩
abbrev cX5_clear : ByteArray := prog_1_method_3_code
def yX5_clear : MethodName := ⟨RX5, "clear", "()V"⟩
abbrev cX5_height : ByteArray := prog_1_method_4_code
def yX5_height : MethodName := ⟨RX5, "height", "(IIII)I"⟩
abbrev cX5_many : ByteArray := prog_1_method_5_code
def yX5_many : MethodName := ⟨RX5, "many", "(I)I"⟩
abbrev cX5_count : ByteArray := prog_1_method_6_code
def yX5_count : MethodName := ⟨RX5, "count", "(II)I"⟩
abbrev cX5_derive : ByteArray := prog_1_method_7_code
def yX5_derive : MethodName := ⟨RX5, "derive", "(IIII)I"⟩
abbrev cX5_step : ByteArray := prog_1_method_8_code
def yX5_step : MethodName := ⟨RX5, "step", "(I)I"⟩
abbrev cX5_use : ByteArray := prog_1_method_9_code
def yX5_use : MethodName := ⟨RX5, "use", "(II)I"⟩
abbrev cX5_fit : ByteArray := prog_1_method_10_code
def yX5_fit : MethodName := ⟨RX5, "fit", "(I)I"⟩
abbrev cX5_letters : ByteArray := prog_1_method_11_code
def yX5_letters : MethodName := ⟨RX5, "letters", "(I)I"⟩
abbrev cX5_requireNonterminal : ByteArray := prog_1_method_12_code
def yX5_requireNonterminal : MethodName := ⟨RX5, "requireNonterminal", "(I)V"⟩
abbrev cX5_requireSymbol : ByteArray := prog_1_method_13_code
def yX5_requireSymbol : MethodName := ⟨RX5, "requireSymbol", "(I)V"⟩
abbrev cX5_requireNumber : ByteArray := prog_1_method_14_code
def yX5_requireNumber : MethodName := ⟨RX5, "requireNumber", "(I)V"⟩
abbrev cX5_countOf : ByteArray := prog_1_method_15_code
def yX5_countOf : MethodName := ⟨RX5, "countOf", "(III)I"⟩
abbrev cX5_rulesChanged : ByteArray := prog_1_method_16_code
def yX5_rulesChanged : MethodName := ⟨RX5, "rulesChanged", "()V"⟩
abbrev cX5_workOut : ByteArray := prog_1_method_17_code
def yX5_workOut : MethodName := ⟨RX5, "workOut", "()V"⟩
abbrev cX5_runRound : ByteArray := prog_1_method_18_code
def yX5_runRound : MethodName := ⟨RX5, "runRound", "(I)Z"⟩
abbrev cX5_timesOnTheLeft : ByteArray := prog_1_method_19_code
def yX5_timesOnTheLeft : MethodName := ⟨RX5, "timesOnTheLeft", "(I)I"⟩
abbrev cX5_timesOnTheRight : ByteArray := prog_1_method_20_code
def yX5_timesOnTheRight : MethodName := ⟨RX5, "timesOnTheRight", "(I)I"⟩
abbrev cX5_reachedFrom : ByteArray := prog_1_method_21_code
def yX5_reachedFrom : MethodName := ⟨RX5, "reachedFrom", "(I)I"⟩
def RX6 : String := "LetterCountsModel"
def TX6 : u_T := fun k => match k with
  | 0 => ("LetterCountsModel", "thrown", "I", false)
  | 1 => ("LetterCountsModel", "rules", "I", false)
  | 2 => ("LetterCountsModel", "lefts", "[I", true)
  | 3 => ("LetterCountsModel", "symbols", "[I", true)
  | 4 => ("LetterCountsModel", "uses", "[I", true)
  | 5 => ("LetterCountsModel", "heights", "[I", true)
  | 6 => ("LetterCountsModel", "reckoned", "Z", false)
  | 7 => ("LetterCountsModel", "sums", "[Z", true)
  | 8 => ("LetterCountsModel", "steps", "I", false)
  | 9 => ("LetterCountsModel", "tree", "[I", true)
  | 10 => ("LetterCountsModel", "newSteps", "I", false)
  | 11 => ("LetterCountsModel", "newTree", "[I", true)
  | 12 => ("LetterCountsModel", "newUses", "[I", true)
  | 13 => ("LetterCountsModel", "height", "I", false)
  | _ => ("LetterCountsModel", "pile", "[I", true)
def tyX6 : Nat → FieldType := fun k => match k with
  | 0 => .int
  | 1 => .int
  | 2 => .array .int
  | 3 => .array .int
  | 4 => .array .int
  | 5 => .array .int
  | 6 => .boolean
  | 7 => .array .boolean
  | 8 => .int
  | 9 => .array .int
  | 10 => .int
  | 11 => .array .int
  | 12 => .array .int
  | 13 => .int
  | _ => .array .int
theorem nmX6 : ∀ a, a < 15 → ∀ b, b < 15 → a ≠ b → (TX6 a).2.1 ≠ (TX6 b).2.1 := by decide +kernel
theorem tyX6_ok : ∀ k, k < 15 → parseFieldDescriptor (TX6 k).2.2.1 = some (tyX6 k) := by decide +kernel
abbrev cX6_init : ByteArray := prog_8_method_1_code
def yX6_init : MethodName := ⟨RX6, "<init>", "()V"⟩
abbrev cX6_thrown : ByteArray := prog_8_method_2_code
def yX6_thrown : MethodName := ⟨RX6, "thrown", "()I"⟩
abbrev cX6_refuse : ByteArray := prog_8_method_3_code
def yX6_refuse : MethodName := ⟨RX6, "refuse", "(ZZZ)Z"⟩
abbrev cX6_in : ByteArray := prog_8_method_4_code
def yX6_in : MethodName := ⟨RX6, "in", "(III)Z"⟩
abbrev cX6_isNonterminal : ByteArray := prog_8_method_5_code
def yX6_isNonterminal : MethodName := ⟨RX6, "isNonterminal", "(I)Z"⟩
abbrev cX6_rule : ByteArray := prog_8_method_6_code
def yX6_rule : MethodName := ⟨RX6, "rule", "(IIIII)I"⟩
abbrev cX6_clear : ByteArray := prog_8_method_7_code
def yX6_clear : MethodName := ⟨RX6, "clear", "()V"⟩
abbrev cX6_times : ByteArray := prog_8_method_8_code
def yX6_times : MethodName := ⟨RX6, "times", "(II)I"⟩
abbrev cX6_own : ByteArray := prog_8_method_9_code
def yX6_own : MethodName := ⟨RX6, "own", "(I)I"⟩
abbrev cX6_sum : ByteArray := prog_8_method_10_code
def yX6_sum : MethodName := ⟨RX6, "sum", "(II)I"⟩
abbrev cX6_less : ByteArray := prog_8_method_11_code
def yX6_less : MethodName := ⟨RX6, "less", "(II)I"⟩
abbrev cX6_has : ByteArray := prog_8_method_12_code
def yX6_has : MethodName := ⟨RX6, "has", "(III)Z"⟩
abbrev cX6_reckonSums : ByteArray := prog_8_method_13_code
def yX6_reckonSums : MethodName := ⟨RX6, "reckonSums", "(II)V"⟩
abbrev cX6_shift : ByteArray := prog_8_method_14_code
def yX6_shift : MethodName := ⟨RX6, "shift", "(II)V"⟩
abbrev cX6_isPlain : ByteArray := prog_8_method_15_code
def yX6_isPlain : MethodName := ⟨RX6, "isPlain", "(I)Z"⟩
abbrev cX6_climb : ByteArray := prog_8_method_16_code
def yX6_climb : MethodName := ⟨RX6, "climb", "(I)Z"⟩
abbrev cX6_reckon : ByteArray := prog_8_method_17_code
def yX6_reckon : MethodName := ⟨RX6, "reckon", "()V"⟩
abbrev cX6_isCount : ByteArray := prog_8_method_18_code
def yX6_isCount : MethodName := ⟨RX6, "isCount", "(IIII)Z"⟩
abbrev cX6_height : ByteArray := prog_8_method_19_code
def yX6_height : MethodName := ⟨RX6, "height", "(IIII)I"⟩
abbrev cX6_manyOf : ByteArray := prog_8_method_20_code
def yX6_manyOf : MethodName := ⟨RX6, "manyOf", "(I)I"⟩
abbrev cX6_many : ByteArray := prog_8_method_21_code
def yX6_many : MethodName := ⟨RX6, "many", "(I)I"⟩
abbrev cX6_count : ByteArray := prog_8_method_22_code
def yX6_count : MethodName := ⟨RX6, "count", "(II)I"⟩
abbrev cX6_rootOf : ByteArray := prog_8_method_23_code
def yX6_rootOf : MethodName := ⟨RX6, "rootOf", "(II)I"⟩
abbrev cX6_spread : ByteArray := prog_8_method_24_code
def yX6_spread : MethodName := ⟨RX6, "spread", "(II)V"⟩
abbrev cX6_write : ByteArray := prog_8_method_25_code
def yX6_write : MethodName := ⟨RX6, "write", "(II)Z"⟩
abbrev cX6_derive : ByteArray := prog_8_method_26_code
def yX6_derive : MethodName := ⟨RX6, "derive", "(IIII)I"⟩
abbrev cX6_step : ByteArray := prog_8_method_27_code
def yX6_step : MethodName := ⟨RX6, "step", "(I)I"⟩
abbrev cX6_use : ByteArray := prog_8_method_28_code
def yX6_use : MethodName := ⟨RX6, "use", "(II)I"⟩
abbrev cX6_stands : ByteArray := prog_8_method_29_code
def yX6_stands : MethodName := ⟨RX6, "stands", "(I)I"⟩
abbrev cX6_asLeft : ByteArray := prog_8_method_30_code
def yX6_asLeft : MethodName := ⟨RX6, "asLeft", "(I)I"⟩
abbrev cX6_reached : ByteArray := prog_8_method_31_code
def yX6_reached : MethodName := ⟨RX6, "reached", "(I)I"⟩
abbrev cX6_fit : ByteArray := prog_8_method_32_code
def yX6_fit : MethodName := ⟨RX6, "fit", "(I)I"⟩
abbrev cX6_letters : ByteArray := prog_8_method_33_code
def yX6_letters : MethodName := ⟨RX6, "letters", "(I)I"⟩
def RJ13 : String := "java/lang/Long"
def TJ13 : u_T := fun k => match k with
  | _ => ("", "", "", false)
def tyJ13 : Nat → FieldType := fun k => match k with
  | _ => .int
abbrev cJ13_bitCount_95d88 : ByteArray := prog_13_method_50_code
def yJ13_bitCount_95d88 : MethodName := ⟨RJ13, "bitCount", "(J)I"⟩
def RJ0 : String := "java/lang/String"
def TJ0 : u_T := fun k => match k with
  | _ => ("", "", "", false)
def tyJ0 : Nat → FieldType := fun k => match k with
  | _ => .int
def RJ10 : String := "java/lang/System"
def TJ10 : u_T := fun k => match k with
  | _ => ("", "", "", false)
def tyJ10 : Nat → FieldType := fun k => match k with
  | _ => .int
def RJ7 : String := "java/util/Arrays"
def TJ7 : u_T := fun k => match k with
  | _ => ("", "", "", false)
def tyJ7 : Nat → FieldType := fun k => match k with
  | _ => .int
abbrev cJ7_fill_d0a16 : ByteArray := prog_19_method_101_code
def yJ7_fill_d0a16 : MethodName := ⟨RJ7, "fill", "([JJ)V"⟩
abbrev cJ7_fill_53178 : ByteArray := prog_19_method_103_code
def yJ7_fill_53178 : MethodName := ⟨RJ7, "fill", "([II)V"⟩
def RL : String := "LetterCountsLaw"
abbrev cL_rule : ByteArray := method_3_code
def yL_rule : MethodName := ⟨RL, "rule", "(LLetterCounts;IIIII[J)I"⟩
abbrev cL_height : ByteArray := method_4_code
def yL_height : MethodName := ⟨RL, "height", "(LLetterCounts;IIII[J)I"⟩
abbrev cL_many : ByteArray := method_5_code
def yL_many : MethodName := ⟨RL, "many", "(LLetterCounts;I[J)I"⟩
abbrev cL_count : ByteArray := method_6_code
def yL_count : MethodName := ⟨RL, "count", "(LLetterCounts;II[J)I"⟩
abbrev cL_derive : ByteArray := method_7_code
def yL_derive : MethodName := ⟨RL, "derive", "(LLetterCounts;IIII[J)I"⟩
abbrev cL_step : ByteArray := method_8_code
def yL_step : MethodName := ⟨RL, "step", "(LLetterCounts;I[J)I"⟩
abbrev cL_use : ByteArray := method_9_code
def yL_use : MethodName := ⟨RL, "use", "(LLetterCounts;II[J)I"⟩
abbrev cL_fit : ByteArray := method_10_code
def yL_fit : MethodName := ⟨RL, "fit", "(LLetterCounts;I[J)I"⟩
abbrev cL_letters : ByteArray := method_11_code
def yL_letters : MethodName := ⟨RL, "letters", "(LLetterCounts;I[J)I"⟩
abbrev cL_law : ByteArray := code
def yL_law : MethodName := ⟨RL, "law", "([I)Z"⟩
abbrev vwCl : List vw_C := [(RX0, TX0, 1), (RX1, TX1, 3), (RX2, TX2, 5), (RX3, TX3, 6), (RX4, TX4, 7), (RX5, TX5, 7), (RX6, TX6, 15)]
/-- links of private members across the nest -/
def fm_nest : List (String × Nat × MethodName × String) := [(RX5, 38, yX4_init, "LetterCounts"), (RX5, 43, yX2_init, "LetterCounts"), (RX2, 11, yX0_init, "LetterCounts"), (RX3, 34, yX1_init, "LetterCounts"), (RX1, 11, yX0_init, "LetterCounts")]
/-- the array classes: ints, longs, booleans, references -/
def fm_tys (cA : Nat → ClassId) : List (ClassId × FieldType) := [(cA 0, .int), (cA 1, .long), (cA 2, .boolean), (cA 3, .object RX2), (cA 4, .object RX3), (cA 5, .object RX1)]
def fm_refs : List String := [RX2, RX3, RX1]
def fm_stat : List (String × String × String) := [("java/lang/Throwable", "UNASSIGNED_STACK", "[Ljava/lang/StackTraceElement;"), ("java/lang/Throwable", "SUPPRESSED_SENTINEL", "Ljava/util/List;")]
end
section
theorem dJ13_bitCount_95d88_0 : decode cJ13_bitCount_95d88 0 = .ok (.lload_n 0, 1) := by decide +kernel
theorem dJ13_bitCount_95d88_1 : decode cJ13_bitCount_95d88 1 = .ok (.lload_n 0, 1) := by decide +kernel
theorem dJ13_bitCount_95d88_2 : decode cJ13_bitCount_95d88 2 = .ok (.iconst 1, 1) := by decide +kernel
theorem dJ13_bitCount_95d88_3 : decode cJ13_bitCount_95d88 3 = .ok (.lushr, 1) := by decide +kernel
theorem dJ13_bitCount_95d88_4 : decode cJ13_bitCount_95d88 4 = .ok (.ldc2_w 314, 3) := by decide +kernel
theorem dJ13_bitCount_95d88_7 : decode cJ13_bitCount_95d88 7 = .ok (.land, 1) := by decide +kernel
theorem dJ13_bitCount_95d88_8 : decode cJ13_bitCount_95d88 8 = .ok (.lsub, 1) := by decide +kernel
theorem dJ13_bitCount_95d88_9 : decode cJ13_bitCount_95d88 9 = .ok (.lstore_n 0, 1) := by decide +kernel
theorem dJ13_bitCount_95d88_10 : decode cJ13_bitCount_95d88 10 = .ok (.lload_n 0, 1) := by decide +kernel
theorem dJ13_bitCount_95d88_11 : decode cJ13_bitCount_95d88 11 = .ok (.ldc2_w 316, 3) := by decide +kernel
theorem dJ13_bitCount_95d88_14 : decode cJ13_bitCount_95d88 14 = .ok (.land, 1) := by decide +kernel
theorem dJ13_bitCount_95d88_15 : decode cJ13_bitCount_95d88 15 = .ok (.lload_n 0, 1) := by decide +kernel
theorem dJ13_bitCount_95d88_16 : decode cJ13_bitCount_95d88 16 = .ok (.iconst 2, 1) := by decide +kernel
theorem dJ13_bitCount_95d88_17 : decode cJ13_bitCount_95d88 17 = .ok (.lushr, 1) := by decide +kernel
theorem dJ13_bitCount_95d88_18 : decode cJ13_bitCount_95d88 18 = .ok (.ldc2_w 316, 3) := by decide +kernel
theorem dJ13_bitCount_95d88_21 : decode cJ13_bitCount_95d88 21 = .ok (.land, 1) := by decide +kernel
theorem dJ13_bitCount_95d88_22 : decode cJ13_bitCount_95d88 22 = .ok (.ladd, 1) := by decide +kernel
theorem dJ13_bitCount_95d88_23 : decode cJ13_bitCount_95d88 23 = .ok (.lstore_n 0, 1) := by decide +kernel
theorem dJ13_bitCount_95d88_24 : decode cJ13_bitCount_95d88 24 = .ok (.lload_n 0, 1) := by decide +kernel
theorem dJ13_bitCount_95d88_25 : decode cJ13_bitCount_95d88 25 = .ok (.lload_n 0, 1) := by decide +kernel
theorem dJ13_bitCount_95d88_26 : decode cJ13_bitCount_95d88 26 = .ok (.iconst 4, 1) := by decide +kernel
theorem dJ13_bitCount_95d88_27 : decode cJ13_bitCount_95d88 27 = .ok (.lushr, 1) := by decide +kernel
theorem dJ13_bitCount_95d88_28 : decode cJ13_bitCount_95d88 28 = .ok (.ladd, 1) := by decide +kernel
theorem dJ13_bitCount_95d88_29 : decode cJ13_bitCount_95d88 29 = .ok (.ldc2_w 318, 3) := by decide +kernel
theorem dJ13_bitCount_95d88_32 : decode cJ13_bitCount_95d88 32 = .ok (.land, 1) := by decide +kernel
theorem dJ13_bitCount_95d88_33 : decode cJ13_bitCount_95d88 33 = .ok (.lstore_n 0, 1) := by decide +kernel
theorem dJ13_bitCount_95d88_34 : decode cJ13_bitCount_95d88 34 = .ok (.lload_n 0, 1) := by decide +kernel
theorem dJ13_bitCount_95d88_35 : decode cJ13_bitCount_95d88 35 = .ok (.lload_n 0, 1) := by decide +kernel
theorem dJ13_bitCount_95d88_36 : decode cJ13_bitCount_95d88 36 = .ok (.bipush 8, 2) := by decide +kernel
theorem dJ13_bitCount_95d88_38 : decode cJ13_bitCount_95d88 38 = .ok (.lushr, 1) := by decide +kernel
theorem dJ13_bitCount_95d88_39 : decode cJ13_bitCount_95d88 39 = .ok (.ladd, 1) := by decide +kernel
theorem dJ13_bitCount_95d88_40 : decode cJ13_bitCount_95d88 40 = .ok (.lstore_n 0, 1) := by decide +kernel
theorem dJ13_bitCount_95d88_41 : decode cJ13_bitCount_95d88 41 = .ok (.lload_n 0, 1) := by decide +kernel
theorem dJ13_bitCount_95d88_42 : decode cJ13_bitCount_95d88 42 = .ok (.lload_n 0, 1) := by decide +kernel
theorem dJ13_bitCount_95d88_43 : decode cJ13_bitCount_95d88 43 = .ok (.bipush 16, 2) := by decide +kernel
theorem dJ13_bitCount_95d88_45 : decode cJ13_bitCount_95d88 45 = .ok (.lushr, 1) := by decide +kernel
theorem dJ13_bitCount_95d88_46 : decode cJ13_bitCount_95d88 46 = .ok (.ladd, 1) := by decide +kernel
theorem dJ13_bitCount_95d88_47 : decode cJ13_bitCount_95d88 47 = .ok (.lstore_n 0, 1) := by decide +kernel
theorem dJ13_bitCount_95d88_48 : decode cJ13_bitCount_95d88 48 = .ok (.lload_n 0, 1) := by decide +kernel
theorem dJ13_bitCount_95d88_49 : decode cJ13_bitCount_95d88 49 = .ok (.lload_n 0, 1) := by decide +kernel
theorem dJ13_bitCount_95d88_50 : decode cJ13_bitCount_95d88 50 = .ok (.bipush 32, 2) := by decide +kernel
theorem dJ13_bitCount_95d88_52 : decode cJ13_bitCount_95d88 52 = .ok (.lushr, 1) := by decide +kernel
theorem dJ13_bitCount_95d88_53 : decode cJ13_bitCount_95d88 53 = .ok (.ladd, 1) := by decide +kernel
theorem dJ13_bitCount_95d88_54 : decode cJ13_bitCount_95d88 54 = .ok (.lstore_n 0, 1) := by decide +kernel
theorem dJ13_bitCount_95d88_55 : decode cJ13_bitCount_95d88 55 = .ok (.lload_n 0, 1) := by decide +kernel
theorem dJ13_bitCount_95d88_56 : decode cJ13_bitCount_95d88 56 = .ok (.l2i, 1) := by decide +kernel
theorem dJ13_bitCount_95d88_57 : decode cJ13_bitCount_95d88 57 = .ok (.bipush 127, 2) := by decide +kernel
theorem dJ13_bitCount_95d88_59 : decode cJ13_bitCount_95d88 59 = .ok (.iand, 1) := by decide +kernel
theorem dJ13_bitCount_95d88_60 : decode cJ13_bitCount_95d88 60 = .ok (.ireturn, 1) := by decide +kernel
theorem dJ7_fill_d0a16_0 : decode cJ7_fill_d0a16 0 = .ok (.iconst 0, 1) := by decide +kernel
theorem dJ7_fill_d0a16_1 : decode cJ7_fill_d0a16 1 = .ok (.istore_n 3, 1) := by decide +kernel
theorem dJ7_fill_d0a16_2 : decode cJ7_fill_d0a16 2 = .ok (.aload_n 0, 1) := by decide +kernel
theorem dJ7_fill_d0a16_3 : decode cJ7_fill_d0a16 3 = .ok (.arraylength, 1) := by decide +kernel
theorem dJ7_fill_d0a16_4 : decode cJ7_fill_d0a16 4 = .ok (.istore 4, 2) := by decide +kernel
theorem dJ7_fill_d0a16_6 : decode cJ7_fill_d0a16 6 = .ok (.iload_n 3, 1) := by decide +kernel
theorem dJ7_fill_d0a16_7 : decode cJ7_fill_d0a16 7 = .ok (.iload 4, 2) := by decide +kernel
theorem dJ7_fill_d0a16_9 : decode cJ7_fill_d0a16 9 = .ok (.if_icmp .ge 13, 3) := by decide +kernel
theorem dJ7_fill_d0a16_12 : decode cJ7_fill_d0a16 12 = .ok (.aload_n 0, 1) := by decide +kernel
theorem dJ7_fill_d0a16_13 : decode cJ7_fill_d0a16 13 = .ok (.iload_n 3, 1) := by decide +kernel
theorem dJ7_fill_d0a16_14 : decode cJ7_fill_d0a16 14 = .ok (.lload_n 1, 1) := by decide +kernel
theorem dJ7_fill_d0a16_15 : decode cJ7_fill_d0a16 15 = .ok (.lastore, 1) := by decide +kernel
theorem dJ7_fill_d0a16_16 : decode cJ7_fill_d0a16 16 = .ok (.iinc 3 1, 3) := by decide +kernel
theorem dJ7_fill_d0a16_19 : decode cJ7_fill_d0a16 19 = .ok (.goto (-13), 3) := by decide +kernel
theorem dJ7_fill_d0a16_22 : decode cJ7_fill_d0a16 22 = .ok (.return_, 1) := by decide +kernel
theorem dJ7_fill_53178_0 : decode cJ7_fill_53178 0 = .ok (.iconst 0, 1) := by decide +kernel
theorem dJ7_fill_53178_1 : decode cJ7_fill_53178 1 = .ok (.istore_n 2, 1) := by decide +kernel
theorem dJ7_fill_53178_2 : decode cJ7_fill_53178 2 = .ok (.aload_n 0, 1) := by decide +kernel
theorem dJ7_fill_53178_3 : decode cJ7_fill_53178 3 = .ok (.arraylength, 1) := by decide +kernel
theorem dJ7_fill_53178_4 : decode cJ7_fill_53178 4 = .ok (.istore_n 3, 1) := by decide +kernel
theorem dJ7_fill_53178_5 : decode cJ7_fill_53178 5 = .ok (.iload_n 2, 1) := by decide +kernel
theorem dJ7_fill_53178_6 : decode cJ7_fill_53178 6 = .ok (.iload_n 3, 1) := by decide +kernel
theorem dJ7_fill_53178_7 : decode cJ7_fill_53178 7 = .ok (.if_icmp .ge 13, 3) := by decide +kernel
theorem dJ7_fill_53178_10 : decode cJ7_fill_53178 10 = .ok (.aload_n 0, 1) := by decide +kernel
theorem dJ7_fill_53178_11 : decode cJ7_fill_53178 11 = .ok (.iload_n 2, 1) := by decide +kernel
theorem dJ7_fill_53178_12 : decode cJ7_fill_53178 12 = .ok (.iload_n 1, 1) := by decide +kernel
theorem dJ7_fill_53178_13 : decode cJ7_fill_53178 13 = .ok (.iastore, 1) := by decide +kernel
theorem dJ7_fill_53178_14 : decode cJ7_fill_53178 14 = .ok (.iinc 2 1, 3) := by decide +kernel
theorem dJ7_fill_53178_17 : decode cJ7_fill_53178 17 = .ok (.goto (-12), 3) := by decide +kernel
theorem dJ7_fill_53178_20 : decode cJ7_fill_53178 20 = .ok (.return_, 1) := by decide +kernel
theorem dX0_init_0 : decode cX0_init 0 = .ok (.aload_n 0, 1) := by decide +kernel
theorem dX0_init_1 : decode cX0_init 1 = .ok (.invokespecial 3, 3) := by decide +kernel
theorem dX0_init_4 : decode cX0_init 4 = .ok (.aload_n 0, 1) := by decide +kernel
theorem dX0_init_5 : decode cX0_init 5 = .ok (.bipush 8, 2) := by decide +kernel
theorem dX0_init_7 : decode cX0_init 7 = .ok (.newarray .long, 2) := by decide +kernel
theorem dX0_init_9 : decode cX0_init 9 = .ok (.putfield 11, 3) := by decide +kernel
theorem dX0_init_12 : decode cX0_init 12 = .ok (.return_, 1) := by decide +kernel
theorem dX0_empty_0 : decode cX0_empty 0 = .ok (.aload_n 0, 1) := by decide +kernel
theorem dX0_empty_1 : decode cX0_empty 1 = .ok (.getfield 11, 3) := by decide +kernel
theorem dX0_empty_4 : decode cX0_empty 4 = .ok (.lconst 0, 1) := by decide +kernel
theorem dX0_empty_5 : decode cX0_empty 5 = .ok (.invokestatic 15, 3) := by decide +kernel
theorem dX0_empty_8 : decode cX0_empty 8 = .ok (.return_, 1) := by decide +kernel
theorem dX0_isEmpty_0 : decode cX0_isEmpty 0 = .ok (.lconst 0, 1) := by decide +kernel
theorem dX0_isEmpty_1 : decode cX0_isEmpty 1 = .ok (.lstore_n 1, 1) := by decide +kernel
theorem dX0_isEmpty_2 : decode cX0_isEmpty 2 = .ok (.iconst 0, 1) := by decide +kernel
theorem dX0_isEmpty_3 : decode cX0_isEmpty 3 = .ok (.istore_n 3, 1) := by decide +kernel
theorem dX0_isEmpty_4 : decode cX0_isEmpty 4 = .ok (.iload_n 3, 1) := by decide +kernel
theorem dX0_isEmpty_5 : decode cX0_isEmpty 5 = .ok (.bipush 8, 2) := by decide +kernel
theorem dX0_isEmpty_7 : decode cX0_isEmpty 7 = .ok (.if_icmp .ge 18, 3) := by decide +kernel
theorem dX0_isEmpty_10 : decode cX0_isEmpty 10 = .ok (.lload_n 1, 1) := by decide +kernel
theorem dX0_isEmpty_11 : decode cX0_isEmpty 11 = .ok (.aload_n 0, 1) := by decide +kernel
theorem dX0_isEmpty_12 : decode cX0_isEmpty 12 = .ok (.getfield 11, 3) := by decide +kernel
theorem dX0_isEmpty_15 : decode cX0_isEmpty 15 = .ok (.iload_n 3, 1) := by decide +kernel
theorem dX0_isEmpty_16 : decode cX0_isEmpty 16 = .ok (.laload, 1) := by decide +kernel
theorem dX0_isEmpty_17 : decode cX0_isEmpty 17 = .ok (.lor, 1) := by decide +kernel
theorem dX0_isEmpty_18 : decode cX0_isEmpty 18 = .ok (.lstore_n 1, 1) := by decide +kernel
theorem dX0_isEmpty_19 : decode cX0_isEmpty 19 = .ok (.iinc 3 1, 3) := by decide +kernel
theorem dX0_isEmpty_22 : decode cX0_isEmpty 22 = .ok (.goto (-18), 3) := by decide +kernel
theorem dX0_isEmpty_25 : decode cX0_isEmpty 25 = .ok (.lload_n 1, 1) := by decide +kernel
theorem dX0_isEmpty_26 : decode cX0_isEmpty 26 = .ok (.lconst 0, 1) := by decide +kernel
theorem dX0_isEmpty_27 : decode cX0_isEmpty 27 = .ok (.lcmp, 1) := by decide +kernel
theorem dX0_isEmpty_28 : decode cX0_isEmpty 28 = .ok (.ifCond .ne 7, 3) := by decide +kernel
theorem dX0_isEmpty_31 : decode cX0_isEmpty 31 = .ok (.iconst 1, 1) := by decide +kernel
theorem dX0_isEmpty_32 : decode cX0_isEmpty 32 = .ok (.goto 4, 3) := by decide +kernel
theorem dX0_isEmpty_35 : decode cX0_isEmpty 35 = .ok (.iconst 0, 1) := by decide +kernel
theorem dX0_isEmpty_36 : decode cX0_isEmpty 36 = .ok (.ireturn, 1) := by decide +kernel
theorem dX0_size_0 : decode cX0_size 0 = .ok (.iconst 0, 1) := by decide +kernel
theorem dX0_size_1 : decode cX0_size 1 = .ok (.istore_n 1, 1) := by decide +kernel
theorem dX0_size_2 : decode cX0_size 2 = .ok (.iconst 0, 1) := by decide +kernel
theorem dX0_size_3 : decode cX0_size 3 = .ok (.istore_n 2, 1) := by decide +kernel
theorem dX0_size_4 : decode cX0_size 4 = .ok (.iload_n 2, 1) := by decide +kernel
theorem dX0_size_5 : decode cX0_size 5 = .ok (.bipush 8, 2) := by decide +kernel
theorem dX0_size_7 : decode cX0_size 7 = .ok (.if_icmp .ge 21, 3) := by decide +kernel
theorem dX0_size_10 : decode cX0_size 10 = .ok (.iload_n 1, 1) := by decide +kernel
theorem dX0_size_11 : decode cX0_size 11 = .ok (.aload_n 0, 1) := by decide +kernel
theorem dX0_size_12 : decode cX0_size 12 = .ok (.getfield 11, 3) := by decide +kernel
theorem dX0_size_15 : decode cX0_size 15 = .ok (.iload_n 2, 1) := by decide +kernel
theorem dX0_size_16 : decode cX0_size 16 = .ok (.laload, 1) := by decide +kernel
theorem dX0_size_17 : decode cX0_size 17 = .ok (.invokestatic 21, 3) := by decide +kernel
theorem dX0_size_20 : decode cX0_size 20 = .ok (.iadd, 1) := by decide +kernel
theorem dX0_size_21 : decode cX0_size 21 = .ok (.istore_n 1, 1) := by decide +kernel
theorem dX0_size_22 : decode cX0_size 22 = .ok (.iinc 2 1, 3) := by decide +kernel
theorem dX0_size_25 : decode cX0_size 25 = .ok (.goto (-21), 3) := by decide +kernel
theorem dX0_size_28 : decode cX0_size 28 = .ok (.iload_n 1, 1) := by decide +kernel
theorem dX0_size_29 : decode cX0_size 29 = .ok (.ireturn, 1) := by decide +kernel
theorem dX0_holds_0 : decode cX0_holds 0 = .ok (.aload_n 0, 1) := by decide +kernel
theorem dX0_holds_1 : decode cX0_holds 1 = .ok (.getfield 11, 3) := by decide +kernel
theorem dX0_holds_4 : decode cX0_holds 4 = .ok (.iload_n 1, 1) := by decide +kernel
theorem dX0_holds_5 : decode cX0_holds 5 = .ok (.bipush 6, 2) := by decide +kernel
theorem dX0_holds_7 : decode cX0_holds 7 = .ok (.ishr, 1) := by decide +kernel
theorem dX0_holds_8 : decode cX0_holds 8 = .ok (.laload, 1) := by decide +kernel
theorem dX0_holds_9 : decode cX0_holds 9 = .ok (.iload_n 1, 1) := by decide +kernel
theorem dX0_holds_10 : decode cX0_holds 10 = .ok (.bipush 63, 2) := by decide +kernel
theorem dX0_holds_12 : decode cX0_holds 12 = .ok (.iand, 1) := by decide +kernel
theorem dX0_holds_13 : decode cX0_holds 13 = .ok (.lushr, 1) := by decide +kernel
theorem dX0_holds_14 : decode cX0_holds 14 = .ok (.lconst 1, 1) := by decide +kernel
theorem dX0_holds_15 : decode cX0_holds 15 = .ok (.land, 1) := by decide +kernel
theorem dX0_holds_16 : decode cX0_holds 16 = .ok (.lconst 0, 1) := by decide +kernel
theorem dX0_holds_17 : decode cX0_holds 17 = .ok (.lcmp, 1) := by decide +kernel
theorem dX0_holds_18 : decode cX0_holds 18 = .ok (.ifCond .eq 7, 3) := by decide +kernel
theorem dX0_holds_21 : decode cX0_holds 21 = .ok (.iconst 1, 1) := by decide +kernel
theorem dX0_holds_22 : decode cX0_holds 22 = .ok (.goto 4, 3) := by decide +kernel
theorem dX0_holds_25 : decode cX0_holds 25 = .ok (.iconst 0, 1) := by decide +kernel
theorem dX0_holds_26 : decode cX0_holds 26 = .ok (.ireturn, 1) := by decide +kernel
theorem dX0_add_0 : decode cX0_add 0 = .ok (.aload_n 0, 1) := by decide +kernel
theorem dX0_add_1 : decode cX0_add 1 = .ok (.getfield 11, 3) := by decide +kernel
theorem dX0_add_4 : decode cX0_add 4 = .ok (.iload_n 1, 1) := by decide +kernel
theorem dX0_add_5 : decode cX0_add 5 = .ok (.bipush 6, 2) := by decide +kernel
theorem dX0_add_7 : decode cX0_add 7 = .ok (.ishr, 1) := by decide +kernel
theorem dX0_add_8 : decode cX0_add 8 = .ok (.dup2, 1) := by decide +kernel
theorem dX0_add_9 : decode cX0_add 9 = .ok (.laload, 1) := by decide +kernel
theorem dX0_add_10 : decode cX0_add 10 = .ok (.lconst 1, 1) := by decide +kernel
theorem dX0_add_11 : decode cX0_add 11 = .ok (.iload_n 1, 1) := by decide +kernel
theorem dX0_add_12 : decode cX0_add 12 = .ok (.bipush 63, 2) := by decide +kernel
theorem dX0_add_14 : decode cX0_add 14 = .ok (.iand, 1) := by decide +kernel
theorem dX0_add_15 : decode cX0_add 15 = .ok (.lshl, 1) := by decide +kernel
theorem dX0_add_16 : decode cX0_add 16 = .ok (.lor, 1) := by decide +kernel
theorem dX0_add_17 : decode cX0_add 17 = .ok (.lastore, 1) := by decide +kernel
theorem dX0_add_18 : decode cX0_add 18 = .ok (.return_, 1) := by decide +kernel
theorem dX0_at_0 : decode cX0_at 0 = .ok (.iconst 0, 1) := by decide +kernel
theorem dX0_at_1 : decode cX0_at 1 = .ok (.istore_n 2, 1) := by decide +kernel
theorem dX0_at_2 : decode cX0_at 2 = .ok (.iconst 0, 1) := by decide +kernel
theorem dX0_at_3 : decode cX0_at 3 = .ok (.istore_n 3, 1) := by decide +kernel
theorem dX0_at_4 : decode cX0_at 4 = .ok (.iload_n 3, 1) := by decide +kernel
theorem dX0_at_5 : decode cX0_at 5 = .ok (.sipush 512, 3) := by decide +kernel
theorem dX0_at_8 : decode cX0_at 8 = .ok (.if_icmp .ge 27, 3) := by decide +kernel
theorem dX0_at_11 : decode cX0_at 11 = .ok (.aload_n 0, 1) := by decide +kernel
theorem dX0_at_12 : decode cX0_at 12 = .ok (.iload_n 3, 1) := by decide +kernel
theorem dX0_at_13 : decode cX0_at 13 = .ok (.invokevirtual 27, 3) := by decide +kernel
theorem dX0_at_16 : decode cX0_at 16 = .ok (.ifCond .eq 13, 3) := by decide +kernel
theorem dX0_at_19 : decode cX0_at 19 = .ok (.iload_n 2, 1) := by decide +kernel
theorem dX0_at_20 : decode cX0_at 20 = .ok (.iload_n 1, 1) := by decide +kernel
theorem dX0_at_21 : decode cX0_at 21 = .ok (.if_icmp .ne 5, 3) := by decide +kernel
theorem dX0_at_24 : decode cX0_at 24 = .ok (.iload_n 3, 1) := by decide +kernel
theorem dX0_at_25 : decode cX0_at 25 = .ok (.ireturn, 1) := by decide +kernel
theorem dX0_at_26 : decode cX0_at 26 = .ok (.iinc 2 1, 3) := by decide +kernel
theorem dX0_at_29 : decode cX0_at 29 = .ok (.iinc 3 1, 3) := by decide +kernel
theorem dX0_at_32 : decode cX0_at 32 = .ok (.goto (-28), 3) := by decide +kernel
theorem dX0_at_35 : decode cX0_at 35 = .ok (.iconst (-1), 1) := by decide +kernel
theorem dX0_at_36 : decode cX0_at 36 = .ok (.ireturn, 1) := by decide +kernel
theorem dX0_become_0 : decode cX0_become 0 = .ok (.aload_n 1, 1) := by decide +kernel
theorem dX0_become_1 : decode cX0_become 1 = .ok (.getfield 11, 3) := by decide +kernel
theorem dX0_become_4 : decode cX0_become 4 = .ok (.iconst 0, 1) := by decide +kernel
theorem dX0_become_5 : decode cX0_become 5 = .ok (.aload_n 0, 1) := by decide +kernel
theorem dX0_become_6 : decode cX0_become 6 = .ok (.getfield 11, 3) := by decide +kernel
theorem dX0_become_9 : decode cX0_become 9 = .ok (.iconst 0, 1) := by decide +kernel
theorem dX0_become_10 : decode cX0_become 10 = .ok (.bipush 8, 2) := by decide +kernel
theorem dX0_become_12 : decode cX0_become 12 = .ok (.invokestatic 31, 3) := by decide +kernel
theorem dX0_become_15 : decode cX0_become 15 = .ok (.return_, 1) := by decide +kernel
theorem dX0_addAll_0 : decode cX0_addAll 0 = .ok (.iconst 0, 1) := by decide +kernel
theorem dX0_addAll_1 : decode cX0_addAll 1 = .ok (.istore_n 2, 1) := by decide +kernel
theorem dX0_addAll_2 : decode cX0_addAll 2 = .ok (.iload_n 2, 1) := by decide +kernel
theorem dX0_addAll_3 : decode cX0_addAll 3 = .ok (.bipush 8, 2) := by decide +kernel
theorem dX0_addAll_5 : decode cX0_addAll 5 = .ok (.if_icmp .ge 24, 3) := by decide +kernel
theorem dX0_addAll_8 : decode cX0_addAll 8 = .ok (.aload_n 0, 1) := by decide +kernel
theorem dX0_addAll_9 : decode cX0_addAll 9 = .ok (.getfield 11, 3) := by decide +kernel
theorem dX0_addAll_12 : decode cX0_addAll 12 = .ok (.iload_n 2, 1) := by decide +kernel
theorem dX0_addAll_13 : decode cX0_addAll 13 = .ok (.dup2, 1) := by decide +kernel
theorem dX0_addAll_14 : decode cX0_addAll 14 = .ok (.laload, 1) := by decide +kernel
theorem dX0_addAll_15 : decode cX0_addAll 15 = .ok (.aload_n 1, 1) := by decide +kernel
theorem dX0_addAll_16 : decode cX0_addAll 16 = .ok (.getfield 11, 3) := by decide +kernel
theorem dX0_addAll_19 : decode cX0_addAll 19 = .ok (.iload_n 2, 1) := by decide +kernel
theorem dX0_addAll_20 : decode cX0_addAll 20 = .ok (.laload, 1) := by decide +kernel
theorem dX0_addAll_21 : decode cX0_addAll 21 = .ok (.lor, 1) := by decide +kernel
theorem dX0_addAll_22 : decode cX0_addAll 22 = .ok (.lastore, 1) := by decide +kernel
theorem dX0_addAll_23 : decode cX0_addAll 23 = .ok (.iinc 2 1, 3) := by decide +kernel
theorem dX0_addAll_26 : decode cX0_addAll 26 = .ok (.goto (-24), 3) := by decide +kernel
theorem dX0_addAll_29 : decode cX0_addAll 29 = .ok (.return_, 1) := by decide +kernel
theorem dX0_removeAll_0 : decode cX0_removeAll 0 = .ok (.iconst 0, 1) := by decide +kernel
theorem dX0_removeAll_1 : decode cX0_removeAll 1 = .ok (.istore_n 2, 1) := by decide +kernel
theorem dX0_removeAll_2 : decode cX0_removeAll 2 = .ok (.iload_n 2, 1) := by decide +kernel
theorem dX0_removeAll_3 : decode cX0_removeAll 3 = .ok (.bipush 8, 2) := by decide +kernel
theorem dX0_removeAll_5 : decode cX0_removeAll 5 = .ok (.if_icmp .ge 28, 3) := by decide +kernel
theorem dX0_removeAll_8 : decode cX0_removeAll 8 = .ok (.aload_n 0, 1) := by decide +kernel
theorem dX0_removeAll_9 : decode cX0_removeAll 9 = .ok (.getfield 11, 3) := by decide +kernel
theorem dX0_removeAll_12 : decode cX0_removeAll 12 = .ok (.iload_n 2, 1) := by decide +kernel
theorem dX0_removeAll_13 : decode cX0_removeAll 13 = .ok (.dup2, 1) := by decide +kernel
theorem dX0_removeAll_14 : decode cX0_removeAll 14 = .ok (.laload, 1) := by decide +kernel
theorem dX0_removeAll_15 : decode cX0_removeAll 15 = .ok (.aload_n 1, 1) := by decide +kernel
theorem dX0_removeAll_16 : decode cX0_removeAll 16 = .ok (.getfield 11, 3) := by decide +kernel
theorem dX0_removeAll_19 : decode cX0_removeAll 19 = .ok (.iload_n 2, 1) := by decide +kernel
theorem dX0_removeAll_20 : decode cX0_removeAll 20 = .ok (.laload, 1) := by decide +kernel
theorem dX0_removeAll_21 : decode cX0_removeAll 21 = .ok (.ldc2_w 37, 3) := by decide +kernel
theorem dX0_removeAll_24 : decode cX0_removeAll 24 = .ok (.lxor, 1) := by decide +kernel
theorem dX0_removeAll_25 : decode cX0_removeAll 25 = .ok (.land, 1) := by decide +kernel
theorem dX0_removeAll_26 : decode cX0_removeAll 26 = .ok (.lastore, 1) := by decide +kernel
theorem dX0_removeAll_27 : decode cX0_removeAll 27 = .ok (.iinc 2 1, 3) := by decide +kernel
theorem dX0_removeAll_30 : decode cX0_removeAll 30 = .ok (.goto (-28), 3) := by decide +kernel
theorem dX0_removeAll_33 : decode cX0_removeAll 33 = .ok (.return_, 1) := by decide +kernel
theorem dX0_addSums_0 : decode cX0_addSums 0 = .ok (.iconst 0, 1) := by decide +kernel
theorem dX0_addSums_1 : decode cX0_addSums 1 = .ok (.istore_n 3, 1) := by decide +kernel
theorem dX0_addSums_2 : decode cX0_addSums 2 = .ok (.iload_n 3, 1) := by decide +kernel
theorem dX0_addSums_3 : decode cX0_addSums 3 = .ok (.bipush 8, 2) := by decide +kernel
theorem dX0_addSums_5 : decode cX0_addSums 5 = .ok (.if_icmp .ge 60, 3) := by decide +kernel
theorem dX0_addSums_8 : decode cX0_addSums 8 = .ok (.aload_n 1, 1) := by decide +kernel
theorem dX0_addSums_9 : decode cX0_addSums 9 = .ok (.getfield 11, 3) := by decide +kernel
theorem dX0_addSums_12 : decode cX0_addSums 12 = .ok (.iload_n 3, 1) := by decide +kernel
theorem dX0_addSums_13 : decode cX0_addSums 13 = .ok (.laload, 1) := by decide +kernel
theorem dX0_addSums_14 : decode cX0_addSums 14 = .ok (.lstore 4, 2) := by decide +kernel
theorem dX0_addSums_16 : decode cX0_addSums 16 = .ok (.iconst 0, 1) := by decide +kernel
theorem dX0_addSums_17 : decode cX0_addSums 17 = .ok (.istore 6, 2) := by decide +kernel
theorem dX0_addSums_19 : decode cX0_addSums 19 = .ok (.iload 6, 2) := by decide +kernel
theorem dX0_addSums_21 : decode cX0_addSums 21 = .ok (.bipush 64, 2) := by decide +kernel
theorem dX0_addSums_23 : decode cX0_addSums 23 = .ok (.if_icmp .ge 36, 3) := by decide +kernel
theorem dX0_addSums_26 : decode cX0_addSums 26 = .ok (.lload 4, 2) := by decide +kernel
theorem dX0_addSums_28 : decode cX0_addSums 28 = .ok (.lconst 0, 1) := by decide +kernel
theorem dX0_addSums_29 : decode cX0_addSums 29 = .ok (.lcmp, 1) := by decide +kernel
theorem dX0_addSums_30 : decode cX0_addSums 30 = .ok (.ifCond .eq 29, 3) := by decide +kernel
theorem dX0_addSums_33 : decode cX0_addSums 33 = .ok (.lload 4, 2) := by decide +kernel
theorem dX0_addSums_35 : decode cX0_addSums 35 = .ok (.iload 6, 2) := by decide +kernel
theorem dX0_addSums_37 : decode cX0_addSums 37 = .ok (.lushr, 1) := by decide +kernel
theorem dX0_addSums_38 : decode cX0_addSums 38 = .ok (.lconst 1, 1) := by decide +kernel
theorem dX0_addSums_39 : decode cX0_addSums 39 = .ok (.land, 1) := by decide +kernel
theorem dX0_addSums_40 : decode cX0_addSums 40 = .ok (.lconst 0, 1) := by decide +kernel
theorem dX0_addSums_41 : decode cX0_addSums 41 = .ok (.lcmp, 1) := by decide +kernel
theorem dX0_addSums_42 : decode cX0_addSums 42 = .ok (.ifCond .eq 11, 3) := by decide +kernel
theorem dX0_addSums_45 : decode cX0_addSums 45 = .ok (.aload_n 0, 1) := by decide +kernel
theorem dX0_addSums_46 : decode cX0_addSums 46 = .ok (.aload_n 2, 1) := by decide +kernel
theorem dX0_addSums_47 : decode cX0_addSums 47 = .ok (.iload_n 3, 1) := by decide +kernel
theorem dX0_addSums_48 : decode cX0_addSums 48 = .ok (.iload 6, 2) := by decide +kernel
theorem dX0_addSums_50 : decode cX0_addSums 50 = .ok (.invokevirtual 39, 3) := by decide +kernel
theorem dX0_addSums_53 : decode cX0_addSums 53 = .ok (.iinc 6 1, 3) := by decide +kernel
theorem dX0_addSums_56 : decode cX0_addSums 56 = .ok (.goto (-37), 3) := by decide +kernel
theorem dX0_addSums_59 : decode cX0_addSums 59 = .ok (.iinc 3 1, 3) := by decide +kernel
theorem dX0_addSums_62 : decode cX0_addSums 62 = .ok (.goto (-60), 3) := by decide +kernel
theorem dX0_addSums_65 : decode cX0_addSums 65 = .ok (.return_, 1) := by decide +kernel
theorem dX0_addMoved_0 : decode cX0_addMoved 0 = .ok (.ldc2_w 43, 3) := by decide +kernel
theorem dX0_addMoved_3 : decode cX0_addMoved 3 = .ok (.sipush 255, 3) := by decide +kernel
theorem dX0_addMoved_6 : decode cX0_addMoved 6 = .ok (.iload_n 3, 1) := by decide +kernel
theorem dX0_addMoved_7 : decode cX0_addMoved 7 = .ok (.bipush 7, 2) := by decide +kernel
theorem dX0_addMoved_9 : decode cX0_addMoved 9 = .ok (.iand, 1) := by decide +kernel
theorem dX0_addMoved_10 : decode cX0_addMoved 10 = .ok (.iushr, 1) := by decide +kernel
theorem dX0_addMoved_11 : decode cX0_addMoved 11 = .ok (.i2l, 1) := by decide +kernel
theorem dX0_addMoved_12 : decode cX0_addMoved 12 = .ok (.lmul, 1) := by decide +kernel
theorem dX0_addMoved_13 : decode cX0_addMoved 13 = .ok (.lstore 4, 2) := by decide +kernel
theorem dX0_addMoved_15 : decode cX0_addMoved 15 = .ok (.iconst 0, 1) := by decide +kernel
theorem dX0_addMoved_16 : decode cX0_addMoved 16 = .ok (.istore 6, 2) := by decide +kernel
theorem dX0_addMoved_18 : decode cX0_addMoved 18 = .ok (.iload 6, 2) := by decide +kernel
theorem dX0_addMoved_20 : decode cX0_addMoved 20 = .ok (.iload_n 2, 1) := by decide +kernel
theorem dX0_addMoved_21 : decode cX0_addMoved 21 = .ok (.iadd, 1) := by decide +kernel
theorem dX0_addMoved_22 : decode cX0_addMoved 22 = .ok (.bipush 8, 2) := by decide +kernel
theorem dX0_addMoved_24 : decode cX0_addMoved 24 = .ok (.if_icmp .ge 33, 3) := by decide +kernel
theorem dX0_addMoved_27 : decode cX0_addMoved 27 = .ok (.aload_n 0, 1) := by decide +kernel
theorem dX0_addMoved_28 : decode cX0_addMoved 28 = .ok (.getfield 11, 3) := by decide +kernel
theorem dX0_addMoved_31 : decode cX0_addMoved 31 = .ok (.iload 6, 2) := by decide +kernel
theorem dX0_addMoved_33 : decode cX0_addMoved 33 = .ok (.iload_n 2, 1) := by decide +kernel
theorem dX0_addMoved_34 : decode cX0_addMoved 34 = .ok (.iadd, 1) := by decide +kernel
theorem dX0_addMoved_35 : decode cX0_addMoved 35 = .ok (.dup2, 1) := by decide +kernel
theorem dX0_addMoved_36 : decode cX0_addMoved 36 = .ok (.laload, 1) := by decide +kernel
theorem dX0_addMoved_37 : decode cX0_addMoved 37 = .ok (.aload_n 1, 1) := by decide +kernel
theorem dX0_addMoved_38 : decode cX0_addMoved 38 = .ok (.getfield 11, 3) := by decide +kernel
theorem dX0_addMoved_41 : decode cX0_addMoved 41 = .ok (.iload 6, 2) := by decide +kernel
theorem dX0_addMoved_43 : decode cX0_addMoved 43 = .ok (.laload, 1) := by decide +kernel
theorem dX0_addMoved_44 : decode cX0_addMoved 44 = .ok (.lload 4, 2) := by decide +kernel
theorem dX0_addMoved_46 : decode cX0_addMoved 46 = .ok (.land, 1) := by decide +kernel
theorem dX0_addMoved_47 : decode cX0_addMoved 47 = .ok (.iload_n 3, 1) := by decide +kernel
theorem dX0_addMoved_48 : decode cX0_addMoved 48 = .ok (.lshl, 1) := by decide +kernel
theorem dX0_addMoved_49 : decode cX0_addMoved 49 = .ok (.lor, 1) := by decide +kernel
theorem dX0_addMoved_50 : decode cX0_addMoved 50 = .ok (.lastore, 1) := by decide +kernel
theorem dX0_addMoved_51 : decode cX0_addMoved 51 = .ok (.iinc 6 1, 3) := by decide +kernel
theorem dX0_addMoved_54 : decode cX0_addMoved 54 = .ok (.goto (-36), 3) := by decide +kernel
theorem dX0_addMoved_57 : decode cX0_addMoved 57 = .ok (.return_, 1) := by decide +kernel
theorem dX1_init_0 : decode cX1_init 0 = .ok (.aload_n 0, 1) := by decide +kernel
theorem dX1_init_1 : decode cX1_init 1 = .ok (.invokespecial 3, 3) := by decide +kernel
theorem dX1_init_4 : decode cX1_init 4 = .ok (.aload_n 0, 1) := by decide +kernel
theorem dX1_init_5 : decode cX1_init 5 = .ok (.new 9, 3) := by decide +kernel
theorem dX1_init_8 : decode cX1_init 8 = .ok (.dup, 1) := by decide +kernel
theorem dX1_init_9 : decode cX1_init 9 = .ok (.invokespecial 11, 3) := by decide +kernel
theorem dX1_init_12 : decode cX1_init 12 = .ok (.putfield 12, 3) := by decide +kernel
theorem dX1_init_15 : decode cX1_init 15 = .ok (.aload_n 0, 1) := by decide +kernel
theorem dX1_init_16 : decode cX1_init 16 = .ok (.new 9, 3) := by decide +kernel
theorem dX1_init_19 : decode cX1_init 19 = .ok (.dup, 1) := by decide +kernel
theorem dX1_init_20 : decode cX1_init 20 = .ok (.invokespecial 11, 3) := by decide +kernel
theorem dX1_init_23 : decode cX1_init 23 = .ok (.putfield 18, 3) := by decide +kernel
theorem dX1_init_26 : decode cX1_init 26 = .ok (.aload_n 0, 1) := by decide +kernel
theorem dX1_init_27 : decode cX1_init 27 = .ok (.sipush 512, 3) := by decide +kernel
theorem dX1_init_30 : decode cX1_init 30 = .ok (.newarray .int, 2) := by decide +kernel
theorem dX1_init_32 : decode cX1_init 32 = .ok (.putfield 21, 3) := by decide +kernel
theorem dX1_init_35 : decode cX1_init 35 = .ok (.return_, 1) := by decide +kernel
theorem dX1_forget_0 : decode cX1_forget 0 = .ok (.aload_n 0, 1) := by decide +kernel
theorem dX1_forget_1 : decode cX1_forget 1 = .ok (.getfield 12, 3) := by decide +kernel
theorem dX1_forget_4 : decode cX1_forget 4 = .ok (.invokevirtual 25, 3) := by decide +kernel
theorem dX1_forget_7 : decode cX1_forget 7 = .ok (.aload_n 0, 1) := by decide +kernel
theorem dX1_forget_8 : decode cX1_forget 8 = .ok (.getfield 18, 3) := by decide +kernel
theorem dX1_forget_11 : decode cX1_forget 11 = .ok (.invokevirtual 25, 3) := by decide +kernel
theorem dX1_forget_14 : decode cX1_forget 14 = .ok (.aload_n 0, 1) := by decide +kernel
theorem dX1_forget_15 : decode cX1_forget 15 = .ok (.getfield 21, 3) := by decide +kernel
theorem dX1_forget_18 : decode cX1_forget 18 = .ok (.ldc 28, 2) := by decide +kernel
theorem dX1_forget_20 : decode cX1_forget 20 = .ok (.invokestatic 29, 3) := by decide +kernel
theorem dX1_forget_23 : decode cX1_forget 23 = .ok (.return_, 1) := by decide +kernel
theorem dX1_growLetters_0 : decode cX1_growLetters 0 = .ok (.aload_n 0, 1) := by decide +kernel
theorem dX1_growLetters_1 : decode cX1_growLetters 1 = .ok (.getfield 18, 3) := by decide +kernel
theorem dX1_growLetters_4 : decode cX1_growLetters 4 = .ok (.invokevirtual 25, 3) := by decide +kernel
theorem dX1_growLetters_7 : decode cX1_growLetters 7 = .ok (.aload_n 0, 1) := by decide +kernel
theorem dX1_growLetters_8 : decode cX1_growLetters 8 = .ok (.getfield 18, 3) := by decide +kernel
theorem dX1_growLetters_11 : decode cX1_growLetters 11 = .ok (.iload_n 1, 1) := by decide +kernel
theorem dX1_growLetters_12 : decode cX1_growLetters 12 = .ok (.invokevirtual 35, 3) := by decide +kernel
theorem dX1_growLetters_15 : decode cX1_growLetters 15 = .ok (.aload_n 0, 1) := by decide +kernel
theorem dX1_growLetters_16 : decode cX1_growLetters 16 = .ok (.iload_n 2, 1) := by decide +kernel
theorem dX1_growLetters_17 : decode cX1_growLetters 17 = .ok (.invokevirtual 39, 3) := by decide +kernel
theorem dX1_growLetters_20 : decode cX1_growLetters 20 = .ok (.return_, 1) := by decide +kernel
theorem dX1_grow_0 : decode cX1_grow 0 = .ok (.aload_n 0, 1) := by decide +kernel
theorem dX1_grow_1 : decode cX1_grow 1 = .ok (.getfield 18, 3) := by decide +kernel
theorem dX1_grow_4 : decode cX1_grow 4 = .ok (.invokevirtual 25, 3) := by decide +kernel
theorem dX1_grow_7 : decode cX1_grow 7 = .ok (.aload_n 0, 1) := by decide +kernel
theorem dX1_grow_8 : decode cX1_grow 8 = .ok (.getfield 18, 3) := by decide +kernel
theorem dX1_grow_11 : decode cX1_grow 11 = .ok (.aload_n 1, 1) := by decide +kernel
theorem dX1_grow_12 : decode cX1_grow 12 = .ok (.getfield 42, 3) := by decide +kernel
theorem dX1_grow_15 : decode cX1_grow 15 = .ok (.aload_n 2, 1) := by decide +kernel
theorem dX1_grow_16 : decode cX1_grow 16 = .ok (.getfield 12, 3) := by decide +kernel
theorem dX1_grow_19 : decode cX1_grow 19 = .ok (.invokevirtual 45, 3) := by decide +kernel
theorem dX1_grow_22 : decode cX1_grow 22 = .ok (.aload_n 0, 1) := by decide +kernel
theorem dX1_grow_23 : decode cX1_grow 23 = .ok (.getfield 18, 3) := by decide +kernel
theorem dX1_grow_26 : decode cX1_grow 26 = .ok (.aload_n 2, 1) := by decide +kernel
theorem dX1_grow_27 : decode cX1_grow 27 = .ok (.getfield 18, 3) := by decide +kernel
theorem dX1_grow_30 : decode cX1_grow 30 = .ok (.aload_n 1, 1) := by decide +kernel
theorem dX1_grow_31 : decode cX1_grow 31 = .ok (.getfield 49, 3) := by decide +kernel
theorem dX1_grow_34 : decode cX1_grow 34 = .ok (.invokevirtual 45, 3) := by decide +kernel
theorem dX1_grow_37 : decode cX1_grow 37 = .ok (.aload_n 0, 1) := by decide +kernel
theorem dX1_grow_38 : decode cX1_grow 38 = .ok (.iload_n 3, 1) := by decide +kernel
theorem dX1_grow_39 : decode cX1_grow 39 = .ok (.invokevirtual 39, 3) := by decide +kernel
theorem dX1_grow_42 : decode cX1_grow 42 = .ok (.return_, 1) := by decide +kernel
theorem dX1_takeNewest_0 : decode cX1_takeNewest 0 = .ok (.aload_n 0, 1) := by decide +kernel
theorem dX1_takeNewest_1 : decode cX1_takeNewest 1 = .ok (.getfield 18, 3) := by decide +kernel
theorem dX1_takeNewest_4 : decode cX1_takeNewest 4 = .ok (.aload_n 0, 1) := by decide +kernel
theorem dX1_takeNewest_5 : decode cX1_takeNewest 5 = .ok (.getfield 12, 3) := by decide +kernel
theorem dX1_takeNewest_8 : decode cX1_takeNewest 8 = .ok (.invokevirtual 52, 3) := by decide +kernel
theorem dX1_takeNewest_11 : decode cX1_takeNewest 11 = .ok (.aload_n 0, 1) := by decide +kernel
theorem dX1_takeNewest_12 : decode cX1_takeNewest 12 = .ok (.getfield 18, 3) := by decide +kernel
theorem dX1_takeNewest_15 : decode cX1_takeNewest 15 = .ok (.invokevirtual 56, 3) := by decide +kernel
theorem dX1_takeNewest_18 : decode cX1_takeNewest 18 = .ok (.ifCond .eq 4, 3) := by decide +kernel
theorem dX1_takeNewest_21 : decode cX1_takeNewest 21 = .ok (.return_, 1) := by decide +kernel
theorem dX1_takeNewest_22 : decode cX1_takeNewest 22 = .ok (.aload_n 0, 1) := by decide +kernel
theorem dX1_takeNewest_23 : decode cX1_takeNewest 23 = .ok (.getfield 12, 3) := by decide +kernel
theorem dX1_takeNewest_26 : decode cX1_takeNewest 26 = .ok (.aload_n 0, 1) := by decide +kernel
theorem dX1_takeNewest_27 : decode cX1_takeNewest 27 = .ok (.getfield 18, 3) := by decide +kernel
theorem dX1_takeNewest_30 : decode cX1_takeNewest 30 = .ok (.invokevirtual 60, 3) := by decide +kernel
theorem dX1_takeNewest_33 : decode cX1_takeNewest 33 = .ok (.iconst 0, 1) := by decide +kernel
theorem dX1_takeNewest_34 : decode cX1_takeNewest 34 = .ok (.istore_n 2, 1) := by decide +kernel
theorem dX1_takeNewest_35 : decode cX1_takeNewest 35 = .ok (.iload_n 2, 1) := by decide +kernel
theorem dX1_takeNewest_36 : decode cX1_takeNewest 36 = .ok (.sipush 512, 3) := by decide +kernel
theorem dX1_takeNewest_39 : decode cX1_takeNewest 39 = .ok (.if_icmp .ge 27, 3) := by decide +kernel
theorem dX1_takeNewest_42 : decode cX1_takeNewest 42 = .ok (.aload_n 0, 1) := by decide +kernel
theorem dX1_takeNewest_43 : decode cX1_takeNewest 43 = .ok (.getfield 18, 3) := by decide +kernel
theorem dX1_takeNewest_46 : decode cX1_takeNewest 46 = .ok (.iload_n 2, 1) := by decide +kernel
theorem dX1_takeNewest_47 : decode cX1_takeNewest 47 = .ok (.invokevirtual 63, 3) := by decide +kernel
theorem dX1_takeNewest_50 : decode cX1_takeNewest 50 = .ok (.ifCond .eq 10, 3) := by decide +kernel
theorem dX1_takeNewest_53 : decode cX1_takeNewest 53 = .ok (.aload_n 0, 1) := by decide +kernel
theorem dX1_takeNewest_54 : decode cX1_takeNewest 54 = .ok (.getfield 21, 3) := by decide +kernel
theorem dX1_takeNewest_57 : decode cX1_takeNewest 57 = .ok (.iload_n 2, 1) := by decide +kernel
theorem dX1_takeNewest_58 : decode cX1_takeNewest 58 = .ok (.iload_n 1, 1) := by decide +kernel
theorem dX1_takeNewest_59 : decode cX1_takeNewest 59 = .ok (.iastore, 1) := by decide +kernel
theorem dX1_takeNewest_60 : decode cX1_takeNewest 60 = .ok (.iinc 2 1, 3) := by decide +kernel
theorem dX1_takeNewest_63 : decode cX1_takeNewest 63 = .ok (.goto (-28), 3) := by decide +kernel
theorem dX1_takeNewest_66 : decode cX1_takeNewest 66 = .ok (.return_, 1) := by decide +kernel
theorem dX2_init_0 : decode cX2_init 0 = .ok (.aload_n 0, 1) := by decide +kernel
theorem dX2_init_1 : decode cX2_init 1 = .ok (.invokespecial 3, 3) := by decide +kernel
theorem dX2_init_4 : decode cX2_init 4 = .ok (.aload_n 0, 1) := by decide +kernel
theorem dX2_init_5 : decode cX2_init 5 = .ok (.new 9, 3) := by decide +kernel
theorem dX2_init_8 : decode cX2_init 8 = .ok (.dup, 1) := by decide +kernel
theorem dX2_init_9 : decode cX2_init 9 = .ok (.invokespecial 11, 3) := by decide +kernel
theorem dX2_init_12 : decode cX2_init 12 = .ok (.putfield 12, 3) := by decide +kernel
theorem dX2_init_15 : decode cX2_init 15 = .ok (.aload_n 0, 1) := by decide +kernel
theorem dX2_init_16 : decode cX2_init 16 = .ok (.new 9, 3) := by decide +kernel
theorem dX2_init_19 : decode cX2_init 19 = .ok (.dup, 1) := by decide +kernel
theorem dX2_init_20 : decode cX2_init 20 = .ok (.invokespecial 11, 3) := by decide +kernel
theorem dX2_init_23 : decode cX2_init 23 = .ok (.putfield 18, 3) := by decide +kernel
theorem dX2_init_26 : decode cX2_init 26 = .ok (.aload_n 0, 1) := by decide +kernel
theorem dX2_init_27 : decode cX2_init 27 = .ok (.new 9, 3) := by decide +kernel
theorem dX2_init_30 : decode cX2_init 30 = .ok (.dup, 1) := by decide +kernel
theorem dX2_init_31 : decode cX2_init 31 = .ok (.invokespecial 11, 3) := by decide +kernel
theorem dX2_init_34 : decode cX2_init 34 = .ok (.putfield 21, 3) := by decide +kernel
theorem dX2_init_37 : decode cX2_init 37 = .ok (.aload_n 0, 1) := by decide +kernel
theorem dX2_init_38 : decode cX2_init 38 = .ok (.sipush 512, 3) := by decide +kernel
theorem dX2_init_41 : decode cX2_init 41 = .ok (.newarray .int, 2) := by decide +kernel
theorem dX2_init_43 : decode cX2_init 43 = .ok (.putfield 24, 3) := by decide +kernel
theorem dX2_init_46 : decode cX2_init 46 = .ok (.aload_n 0, 1) := by decide +kernel
theorem dX2_init_47 : decode cX2_init 47 = .ok (.sipush 512, 3) := by decide +kernel
theorem dX2_init_50 : decode cX2_init 50 = .ok (.newarray .int, 2) := by decide +kernel
theorem dX2_init_52 : decode cX2_init 52 = .ok (.putfield 28, 3) := by decide +kernel
theorem dX2_init_55 : decode cX2_init 55 = .ok (.return_, 1) := by decide +kernel
theorem dX2_forget_0 : decode cX2_forget 0 = .ok (.aload_n 0, 1) := by decide +kernel
theorem dX2_forget_1 : decode cX2_forget 1 = .ok (.getfield 12, 3) := by decide +kernel
theorem dX2_forget_4 : decode cX2_forget 4 = .ok (.invokevirtual 31, 3) := by decide +kernel
theorem dX2_forget_7 : decode cX2_forget 7 = .ok (.aload_n 0, 1) := by decide +kernel
theorem dX2_forget_8 : decode cX2_forget 8 = .ok (.getfield 18, 3) := by decide +kernel
theorem dX2_forget_11 : decode cX2_forget 11 = .ok (.invokevirtual 31, 3) := by decide +kernel
theorem dX2_forget_14 : decode cX2_forget 14 = .ok (.aload_n 0, 1) := by decide +kernel
theorem dX2_forget_15 : decode cX2_forget 15 = .ok (.getfield 21, 3) := by decide +kernel
theorem dX2_forget_18 : decode cX2_forget 18 = .ok (.invokevirtual 31, 3) := by decide +kernel
theorem dX2_forget_21 : decode cX2_forget 21 = .ok (.aload_n 0, 1) := by decide +kernel
theorem dX2_forget_22 : decode cX2_forget 22 = .ok (.getfield 24, 3) := by decide +kernel
theorem dX2_forget_25 : decode cX2_forget 25 = .ok (.ldc 34, 2) := by decide +kernel
theorem dX2_forget_27 : decode cX2_forget 27 = .ok (.invokestatic 35, 3) := by decide +kernel
theorem dX2_forget_30 : decode cX2_forget 30 = .ok (.return_, 1) := by decide +kernel
theorem dX2_find_0 : decode cX2_find 0 = .ok (.aload_n 1, 1) := by decide +kernel
theorem dX2_find_1 : decode cX2_find 1 = .ok (.invokevirtual 41, 3) := by decide +kernel
theorem dX2_find_4 : decode cX2_find 4 = .ok (.ifCond .eq 4, 3) := by decide +kernel
theorem dX2_find_7 : decode cX2_find 7 = .ok (.return_, 1) := by decide +kernel
theorem dX2_find_8 : decode cX2_find 8 = .ok (.iconst 0, 1) := by decide +kernel
theorem dX2_find_9 : decode cX2_find 9 = .ok (.istore 4, 2) := by decide +kernel
theorem dX2_find_11 : decode cX2_find 11 = .ok (.iload 4, 2) := by decide +kernel
theorem dX2_find_13 : decode cX2_find 13 = .ok (.sipush 512, 3) := by decide +kernel
theorem dX2_find_16 : decode cX2_find 16 = .ok (.if_icmp .ge 55, 3) := by decide +kernel
theorem dX2_find_19 : decode cX2_find 19 = .ok (.aload_n 1, 1) := by decide +kernel
theorem dX2_find_20 : decode cX2_find 20 = .ok (.iload 4, 2) := by decide +kernel
theorem dX2_find_22 : decode cX2_find 22 = .ok (.invokevirtual 45, 3) := by decide +kernel
theorem dX2_find_25 : decode cX2_find 25 = .ok (.ifCond .eq 40, 3) := by decide +kernel
theorem dX2_find_28 : decode cX2_find 28 = .ok (.aload_n 0, 1) := by decide +kernel
theorem dX2_find_29 : decode cX2_find 29 = .ok (.getfield 24, 3) := by decide +kernel
theorem dX2_find_32 : decode cX2_find 32 = .ok (.iload 4, 2) := by decide +kernel
theorem dX2_find_34 : decode cX2_find 34 = .ok (.iaload, 1) := by decide +kernel
theorem dX2_find_35 : decode cX2_find 35 = .ok (.ldc 34, 2) := by decide +kernel
theorem dX2_find_37 : decode cX2_find 37 = .ok (.if_icmp .ne 28, 3) := by decide +kernel
theorem dX2_find_40 : decode cX2_find 40 = .ok (.aload_n 0, 1) := by decide +kernel
theorem dX2_find_41 : decode cX2_find 41 = .ok (.getfield 24, 3) := by decide +kernel
theorem dX2_find_44 : decode cX2_find 44 = .ok (.iload 4, 2) := by decide +kernel
theorem dX2_find_46 : decode cX2_find 46 = .ok (.iload_n 3, 1) := by decide +kernel
theorem dX2_find_47 : decode cX2_find 47 = .ok (.iastore, 1) := by decide +kernel
theorem dX2_find_48 : decode cX2_find 48 = .ok (.aload_n 0, 1) := by decide +kernel
theorem dX2_find_49 : decode cX2_find 49 = .ok (.getfield 28, 3) := by decide +kernel
theorem dX2_find_52 : decode cX2_find 52 = .ok (.iload 4, 2) := by decide +kernel
theorem dX2_find_54 : decode cX2_find 54 = .ok (.iload_n 2, 1) := by decide +kernel
theorem dX2_find_55 : decode cX2_find 55 = .ok (.iastore, 1) := by decide +kernel
theorem dX2_find_56 : decode cX2_find 56 = .ok (.aload_n 0, 1) := by decide +kernel
theorem dX2_find_57 : decode cX2_find 57 = .ok (.getfield 21, 3) := by decide +kernel
theorem dX2_find_60 : decode cX2_find 60 = .ok (.iload 4, 2) := by decide +kernel
theorem dX2_find_62 : decode cX2_find 62 = .ok (.invokevirtual 49, 3) := by decide +kernel
theorem dX2_find_65 : decode cX2_find 65 = .ok (.iinc 4 1, 3) := by decide +kernel
theorem dX2_find_68 : decode cX2_find 68 = .ok (.goto (-57), 3) := by decide +kernel
theorem dX2_find_71 : decode cX2_find 71 = .ok (.return_, 1) := by decide +kernel
theorem dX2_endRound_0 : decode cX2_endRound 0 = .ok (.aload_n 0, 1) := by decide +kernel
theorem dX2_endRound_1 : decode cX2_endRound 1 = .ok (.getfield 18, 3) := by decide +kernel
theorem dX2_endRound_4 : decode cX2_endRound 4 = .ok (.aload_n 0, 1) := by decide +kernel
theorem dX2_endRound_5 : decode cX2_endRound 5 = .ok (.getfield 21, 3) := by decide +kernel
theorem dX2_endRound_8 : decode cX2_endRound 8 = .ok (.invokevirtual 53, 3) := by decide +kernel
theorem dX2_endRound_11 : decode cX2_endRound 11 = .ok (.aload_n 0, 1) := by decide +kernel
theorem dX2_endRound_12 : decode cX2_endRound 12 = .ok (.getfield 12, 3) := by decide +kernel
theorem dX2_endRound_15 : decode cX2_endRound 15 = .ok (.aload_n 0, 1) := by decide +kernel
theorem dX2_endRound_16 : decode cX2_endRound 16 = .ok (.getfield 21, 3) := by decide +kernel
theorem dX2_endRound_19 : decode cX2_endRound 19 = .ok (.invokevirtual 57, 3) := by decide +kernel
theorem dX2_endRound_22 : decode cX2_endRound 22 = .ok (.aload_n 0, 1) := by decide +kernel
theorem dX2_endRound_23 : decode cX2_endRound 23 = .ok (.getfield 21, 3) := by decide +kernel
theorem dX2_endRound_26 : decode cX2_endRound 26 = .ok (.invokevirtual 31, 3) := by decide +kernel
theorem dX2_endRound_29 : decode cX2_endRound 29 = .ok (.return_, 1) := by decide +kernel
end
section
theorem dX3_init_0 : decode cX3_init 0 = .ok (.aload_n 0, 1) := by decide +kernel
theorem dX3_init_1 : decode cX3_init 1 = .ok (.invokespecial 3, 3) := by decide +kernel
theorem dX3_init_4 : decode cX3_init 4 = .ok (.aload_n 0, 1) := by decide +kernel
theorem dX3_init_5 : decode cX3_init 5 = .ok (.iconst 0, 1) := by decide +kernel
theorem dX3_init_6 : decode cX3_init 6 = .ok (.putfield 9, 3) := by decide +kernel
theorem dX3_init_9 : decode cX3_init 9 = .ok (.aload_n 0, 1) := by decide +kernel
theorem dX3_init_10 : decode cX3_init 10 = .ok (.iconst 0, 1) := by decide +kernel
theorem dX3_init_11 : decode cX3_init 11 = .ok (.putfield 15, 3) := by decide +kernel
theorem dX3_init_14 : decode cX3_init 14 = .ok (.aload_n 0, 1) := by decide +kernel
theorem dX3_init_15 : decode cX3_init 15 = .ok (.iconst 0, 1) := by decide +kernel
theorem dX3_init_16 : decode cX3_init 16 = .ok (.putfield 18, 3) := by decide +kernel
theorem dX3_init_19 : decode cX3_init 19 = .ok (.aload_n 0, 1) := by decide +kernel
theorem dX3_init_20 : decode cX3_init 20 = .ok (.iconst 0, 1) := by decide +kernel
theorem dX3_init_21 : decode cX3_init 21 = .ok (.putfield 21, 3) := by decide +kernel
theorem dX3_init_24 : decode cX3_init 24 = .ok (.aload_n 0, 1) := by decide +kernel
theorem dX3_init_25 : decode cX3_init 25 = .ok (.iconst 4, 1) := by decide +kernel
theorem dX3_init_26 : decode cX3_init 26 = .ok (.newarray .int, 2) := by decide +kernel
theorem dX3_init_28 : decode cX3_init 28 = .ok (.putfield 24, 3) := by decide +kernel
theorem dX3_init_31 : decode cX3_init 31 = .ok (.aload_n 0, 1) := by decide +kernel
theorem dX3_init_32 : decode cX3_init 32 = .ok (.iconst 5, 1) := by decide +kernel
theorem dX3_init_33 : decode cX3_init 33 = .ok (.anewarray 28, 3) := by decide +kernel
theorem dX3_init_36 : decode cX3_init 36 = .ok (.putfield 30, 3) := by decide +kernel
theorem dX3_init_39 : decode cX3_init 39 = .ok (.iconst 0, 1) := by decide +kernel
theorem dX3_init_40 : decode cX3_init 40 = .ok (.istore_n 1, 1) := by decide +kernel
theorem dX3_init_41 : decode cX3_init 41 = .ok (.iload_n 1, 1) := by decide +kernel
theorem dX3_init_42 : decode cX3_init 42 = .ok (.iconst 4, 1) := by decide +kernel
theorem dX3_init_43 : decode cX3_init 43 = .ok (.if_icmp .gt 22, 3) := by decide +kernel
theorem dX3_init_46 : decode cX3_init 46 = .ok (.aload_n 0, 1) := by decide +kernel
theorem dX3_init_47 : decode cX3_init 47 = .ok (.getfield 30, 3) := by decide +kernel
theorem dX3_init_50 : decode cX3_init 50 = .ok (.iload_n 1, 1) := by decide +kernel
theorem dX3_init_51 : decode cX3_init 51 = .ok (.new 28, 3) := by decide +kernel
theorem dX3_init_54 : decode cX3_init 54 = .ok (.dup, 1) := by decide +kernel
theorem dX3_init_55 : decode cX3_init 55 = .ok (.invokespecial 34, 3) := by decide +kernel
theorem dX3_init_58 : decode cX3_init 58 = .ok (.aastore, 1) := by decide +kernel
theorem dX3_init_59 : decode cX3_init 59 = .ok (.iinc 1 1, 3) := by decide +kernel
theorem dX3_init_62 : decode cX3_init 62 = .ok (.goto (-21), 3) := by decide +kernel
theorem dX3_init_65 : decode cX3_init 65 = .ok (.return_, 1) := by decide +kernel
theorem dX3_begin_0 : decode cX3_begin 0 = .ok (.aload_n 0, 1) := by decide +kernel
theorem dX3_begin_1 : decode cX3_begin 1 = .ok (.iload_n 1, 1) := by decide +kernel
theorem dX3_begin_2 : decode cX3_begin 2 = .ok (.putfield 9, 3) := by decide +kernel
theorem dX3_begin_5 : decode cX3_begin 5 = .ok (.aload_n 0, 1) := by decide +kernel
theorem dX3_begin_6 : decode cX3_begin 6 = .ok (.iconst 0, 1) := by decide +kernel
theorem dX3_begin_7 : decode cX3_begin 7 = .ok (.putfield 15, 3) := by decide +kernel
theorem dX3_begin_10 : decode cX3_begin 10 = .ok (.aload_n 0, 1) := by decide +kernel
theorem dX3_begin_11 : decode cX3_begin 11 = .ok (.iconst 0, 1) := by decide +kernel
theorem dX3_begin_12 : decode cX3_begin 12 = .ok (.putfield 18, 3) := by decide +kernel
theorem dX3_begin_15 : decode cX3_begin 15 = .ok (.aload_n 0, 1) := by decide +kernel
theorem dX3_begin_16 : decode cX3_begin 16 = .ok (.iconst 0, 1) := by decide +kernel
theorem dX3_begin_17 : decode cX3_begin 17 = .ok (.putfield 21, 3) := by decide +kernel
theorem dX3_begin_20 : decode cX3_begin 20 = .ok (.return_, 1) := by decide +kernel
theorem dX3_append_0 : decode cX3_append 0 = .ok (.iload_n 1, 1) := by decide +kernel
theorem dX3_append_1 : decode cX3_append 1 = .ok (.iconst 5, 1) := by decide +kernel
theorem dX3_append_2 : decode cX3_append 2 = .ok (.if_icmp .lt 22, 3) := by decide +kernel
theorem dX3_append_5 : decode cX3_append 5 = .ok (.aload_n 0, 1) := by decide +kernel
theorem dX3_append_6 : decode cX3_append 6 = .ok (.dup, 1) := by decide +kernel
theorem dX3_append_7 : decode cX3_append 7 = .ok (.getfield 18, 3) := by decide +kernel
theorem dX3_append_10 : decode cX3_append 10 = .ok (.iconst 1, 1) := by decide +kernel
theorem dX3_append_11 : decode cX3_append 11 = .ok (.iconst 3, 1) := by decide +kernel
theorem dX3_append_12 : decode cX3_append 12 = .ok (.iload_n 1, 1) := by decide +kernel
theorem dX3_append_13 : decode cX3_append 13 = .ok (.iconst 5, 1) := by decide +kernel
theorem dX3_append_14 : decode cX3_append 14 = .ok (.isub, 1) := by decide +kernel
theorem dX3_append_15 : decode cX3_append 15 = .ok (.imul, 1) := by decide +kernel
theorem dX3_append_16 : decode cX3_append 16 = .ok (.ishl, 1) := by decide +kernel
theorem dX3_append_17 : decode cX3_append 17 = .ok (.iadd, 1) := by decide +kernel
theorem dX3_append_18 : decode cX3_append 18 = .ok (.putfield 18, 3) := by decide +kernel
theorem dX3_append_21 : decode cX3_append 21 = .ok (.goto 36, 3) := by decide +kernel
theorem dX3_append_24 : decode cX3_append 24 = .ok (.iload_n 1, 1) := by decide +kernel
theorem dX3_append_25 : decode cX3_append 25 = .ok (.iconst (-1), 1) := by decide +kernel
theorem dX3_append_26 : decode cX3_append 26 = .ok (.if_icmp .eq 31, 3) := by decide +kernel
theorem dX3_append_29 : decode cX3_append 29 = .ok (.aload_n 0, 1) := by decide +kernel
theorem dX3_append_30 : decode cX3_append 30 = .ok (.getfield 21, 3) := by decide +kernel
theorem dX3_append_33 : decode cX3_append 33 = .ok (.iconst 4, 1) := by decide +kernel
theorem dX3_append_34 : decode cX3_append 34 = .ok (.if_icmp .ge 23, 3) := by decide +kernel
theorem dX3_append_37 : decode cX3_append 37 = .ok (.aload_n 0, 1) := by decide +kernel
theorem dX3_append_38 : decode cX3_append 38 = .ok (.getfield 24, 3) := by decide +kernel
theorem dX3_append_41 : decode cX3_append 41 = .ok (.aload_n 0, 1) := by decide +kernel
theorem dX3_append_42 : decode cX3_append 42 = .ok (.getfield 21, 3) := by decide +kernel
theorem dX3_append_45 : decode cX3_append 45 = .ok (.iload_n 1, 1) := by decide +kernel
theorem dX3_append_46 : decode cX3_append 46 = .ok (.iastore, 1) := by decide +kernel
theorem dX3_append_47 : decode cX3_append 47 = .ok (.aload_n 0, 1) := by decide +kernel
theorem dX3_append_48 : decode cX3_append 48 = .ok (.dup, 1) := by decide +kernel
theorem dX3_append_49 : decode cX3_append 49 = .ok (.getfield 21, 3) := by decide +kernel
theorem dX3_append_52 : decode cX3_append 52 = .ok (.iconst 1, 1) := by decide +kernel
theorem dX3_append_53 : decode cX3_append 53 = .ok (.iadd, 1) := by decide +kernel
theorem dX3_append_54 : decode cX3_append 54 = .ok (.putfield 21, 3) := by decide +kernel
theorem dX3_append_57 : decode cX3_append 57 = .ok (.return_, 1) := by decide +kernel
theorem dX3_lettersOf_0 : decode cX3_lettersOf 0 = .ok (.aload_n 0, 1) := by decide +kernel
theorem dX3_lettersOf_1 : decode cX3_lettersOf 1 = .ok (.getfield 18, 3) := by decide +kernel
theorem dX3_lettersOf_4 : decode cX3_lettersOf 4 = .ok (.iconst 3, 1) := by decide +kernel
theorem dX3_lettersOf_5 : decode cX3_lettersOf 5 = .ok (.iload_n 1, 1) := by decide +kernel
theorem dX3_lettersOf_6 : decode cX3_lettersOf 6 = .ok (.imul, 1) := by decide +kernel
theorem dX3_lettersOf_7 : decode cX3_lettersOf 7 = .ok (.ishr, 1) := by decide +kernel
theorem dX3_lettersOf_8 : decode cX3_lettersOf 8 = .ok (.bipush 7, 2) := by decide +kernel
theorem dX3_lettersOf_10 : decode cX3_lettersOf 10 = .ok (.iand, 1) := by decide +kernel
theorem dX3_lettersOf_11 : decode cX3_lettersOf 11 = .ok (.ireturn, 1) := by decide +kernel
theorem dX3_timesOf_0 : decode cX3_timesOf 0 = .ok (.iconst 0, 1) := by decide +kernel
theorem dX3_timesOf_1 : decode cX3_timesOf 1 = .ok (.istore_n 2, 1) := by decide +kernel
theorem dX3_timesOf_2 : decode cX3_timesOf 2 = .ok (.iconst 0, 1) := by decide +kernel
theorem dX3_timesOf_3 : decode cX3_timesOf 3 = .ok (.istore_n 3, 1) := by decide +kernel
theorem dX3_timesOf_4 : decode cX3_timesOf 4 = .ok (.iload_n 3, 1) := by decide +kernel
theorem dX3_timesOf_5 : decode cX3_timesOf 5 = .ok (.aload_n 0, 1) := by decide +kernel
theorem dX3_timesOf_6 : decode cX3_timesOf 6 = .ok (.getfield 21, 3) := by decide +kernel
theorem dX3_timesOf_9 : decode cX3_timesOf 9 = .ok (.if_icmp .ge 22, 3) := by decide +kernel
theorem dX3_timesOf_12 : decode cX3_timesOf 12 = .ok (.aload_n 0, 1) := by decide +kernel
theorem dX3_timesOf_13 : decode cX3_timesOf 13 = .ok (.getfield 24, 3) := by decide +kernel
theorem dX3_timesOf_16 : decode cX3_timesOf 16 = .ok (.iload_n 3, 1) := by decide +kernel
theorem dX3_timesOf_17 : decode cX3_timesOf 17 = .ok (.iaload, 1) := by decide +kernel
theorem dX3_timesOf_18 : decode cX3_timesOf 18 = .ok (.iload_n 1, 1) := by decide +kernel
theorem dX3_timesOf_19 : decode cX3_timesOf 19 = .ok (.if_icmp .ne 6, 3) := by decide +kernel
theorem dX3_timesOf_22 : decode cX3_timesOf 22 = .ok (.iinc 2 1, 3) := by decide +kernel
theorem dX3_timesOf_25 : decode cX3_timesOf 25 = .ok (.iinc 3 1, 3) := by decide +kernel
theorem dX3_timesOf_28 : decode cX3_timesOf 28 = .ok (.goto (-24), 3) := by decide +kernel
theorem dX3_timesOf_31 : decode cX3_timesOf 31 = .ok (.iload_n 2, 1) := by decide +kernel
theorem dX3_timesOf_32 : decode cX3_timesOf 32 = .ok (.ireturn, 1) := by decide +kernel
theorem dX3_nonterminalBits_0 : decode cX3_nonterminalBits 0 = .ok (.iconst 0, 1) := by decide +kernel
theorem dX3_nonterminalBits_1 : decode cX3_nonterminalBits 1 = .ok (.istore_n 1, 1) := by decide +kernel
theorem dX3_nonterminalBits_2 : decode cX3_nonterminalBits 2 = .ok (.iconst 0, 1) := by decide +kernel
theorem dX3_nonterminalBits_3 : decode cX3_nonterminalBits 3 = .ok (.istore_n 2, 1) := by decide +kernel
theorem dX3_nonterminalBits_4 : decode cX3_nonterminalBits 4 = .ok (.iload_n 2, 1) := by decide +kernel
theorem dX3_nonterminalBits_5 : decode cX3_nonterminalBits 5 = .ok (.aload_n 0, 1) := by decide +kernel
theorem dX3_nonterminalBits_6 : decode cX3_nonterminalBits 6 = .ok (.getfield 21, 3) := by decide +kernel
theorem dX3_nonterminalBits_9 : decode cX3_nonterminalBits 9 = .ok (.if_icmp .ge 20, 3) := by decide +kernel
theorem dX3_nonterminalBits_12 : decode cX3_nonterminalBits 12 = .ok (.iload_n 1, 1) := by decide +kernel
theorem dX3_nonterminalBits_13 : decode cX3_nonterminalBits 13 = .ok (.iconst 1, 1) := by decide +kernel
theorem dX3_nonterminalBits_14 : decode cX3_nonterminalBits 14 = .ok (.aload_n 0, 1) := by decide +kernel
theorem dX3_nonterminalBits_15 : decode cX3_nonterminalBits 15 = .ok (.getfield 24, 3) := by decide +kernel
theorem dX3_nonterminalBits_18 : decode cX3_nonterminalBits 18 = .ok (.iload_n 2, 1) := by decide +kernel
theorem dX3_nonterminalBits_19 : decode cX3_nonterminalBits 19 = .ok (.iaload, 1) := by decide +kernel
theorem dX3_nonterminalBits_20 : decode cX3_nonterminalBits 20 = .ok (.ishl, 1) := by decide +kernel
theorem dX3_nonterminalBits_21 : decode cX3_nonterminalBits 21 = .ok (.ior, 1) := by decide +kernel
theorem dX3_nonterminalBits_22 : decode cX3_nonterminalBits 22 = .ok (.istore_n 1, 1) := by decide +kernel
theorem dX3_nonterminalBits_23 : decode cX3_nonterminalBits 23 = .ok (.iinc 2 1, 3) := by decide +kernel
theorem dX3_nonterminalBits_26 : decode cX3_nonterminalBits 26 = .ok (.goto (-22), 3) := by decide +kernel
theorem dX3_nonterminalBits_29 : decode cX3_nonterminalBits 29 = .ok (.iload_n 1, 1) := by decide +kernel
theorem dX3_nonterminalBits_30 : decode cX3_nonterminalBits 30 = .ok (.ireturn, 1) := by decide +kernel
theorem dX3_forget_0 : decode cX3_forget 0 = .ok (.iconst 0, 1) := by decide +kernel
theorem dX3_forget_1 : decode cX3_forget 1 = .ok (.istore_n 1, 1) := by decide +kernel
theorem dX3_forget_2 : decode cX3_forget 2 = .ok (.iload_n 1, 1) := by decide +kernel
theorem dX3_forget_3 : decode cX3_forget 3 = .ok (.aload_n 0, 1) := by decide +kernel
theorem dX3_forget_4 : decode cX3_forget 4 = .ok (.getfield 21, 3) := by decide +kernel
theorem dX3_forget_7 : decode cX3_forget 7 = .ok (.if_icmp .gt 18, 3) := by decide +kernel
theorem dX3_forget_10 : decode cX3_forget 10 = .ok (.aload_n 0, 1) := by decide +kernel
theorem dX3_forget_11 : decode cX3_forget 11 = .ok (.getfield 30, 3) := by decide +kernel
theorem dX3_forget_14 : decode cX3_forget 14 = .ok (.iload_n 1, 1) := by decide +kernel
theorem dX3_forget_15 : decode cX3_forget 15 = .ok (.aaload, 1) := by decide +kernel
theorem dX3_forget_16 : decode cX3_forget 16 = .ok (.invokevirtual 35, 3) := by decide +kernel
theorem dX3_forget_19 : decode cX3_forget 19 = .ok (.iinc 1 1, 3) := by decide +kernel
theorem dX3_forget_22 : decode cX3_forget 22 = .ok (.goto (-20), 3) := by decide +kernel
theorem dX3_forget_25 : decode cX3_forget 25 = .ok (.return_, 1) := by decide +kernel
theorem dX3_grow_0 : decode cX3_grow 0 = .ok (.aload_n 0, 1) := by decide +kernel
theorem dX3_grow_1 : decode cX3_grow 1 = .ok (.getfield 30, 3) := by decide +kernel
theorem dX3_grow_4 : decode cX3_grow 4 = .ok (.aload_n 0, 1) := by decide +kernel
theorem dX3_grow_5 : decode cX3_grow 5 = .ok (.getfield 21, 3) := by decide +kernel
theorem dX3_grow_8 : decode cX3_grow 8 = .ok (.aaload, 1) := by decide +kernel
theorem dX3_grow_9 : decode cX3_grow 9 = .ok (.aload_n 0, 1) := by decide +kernel
theorem dX3_grow_10 : decode cX3_grow 10 = .ok (.getfield 18, 3) := by decide +kernel
theorem dX3_grow_13 : decode cX3_grow 13 = .ok (.iload_n 2, 1) := by decide +kernel
theorem dX3_grow_14 : decode cX3_grow 14 = .ok (.invokevirtual 38, 3) := by decide +kernel
theorem dX3_grow_17 : decode cX3_grow 17 = .ok (.aload_n 0, 1) := by decide +kernel
theorem dX3_grow_18 : decode cX3_grow 18 = .ok (.getfield 21, 3) := by decide +kernel
theorem dX3_grow_21 : decode cX3_grow 21 = .ok (.iconst 1, 1) := by decide +kernel
theorem dX3_grow_22 : decode cX3_grow 22 = .ok (.isub, 1) := by decide +kernel
theorem dX3_grow_23 : decode cX3_grow 23 = .ok (.istore_n 3, 1) := by decide +kernel
theorem dX3_grow_24 : decode cX3_grow 24 = .ok (.iload_n 3, 1) := by decide +kernel
theorem dX3_grow_25 : decode cX3_grow 25 = .ok (.ifCond .lt 35, 3) := by decide +kernel
theorem dX3_grow_28 : decode cX3_grow 28 = .ok (.aload_n 0, 1) := by decide +kernel
theorem dX3_grow_29 : decode cX3_grow 29 = .ok (.getfield 30, 3) := by decide +kernel
theorem dX3_grow_32 : decode cX3_grow 32 = .ok (.iload_n 3, 1) := by decide +kernel
theorem dX3_grow_33 : decode cX3_grow 33 = .ok (.aaload, 1) := by decide +kernel
theorem dX3_grow_34 : decode cX3_grow 34 = .ok (.aload_n 1, 1) := by decide +kernel
theorem dX3_grow_35 : decode cX3_grow 35 = .ok (.aload_n 0, 1) := by decide +kernel
theorem dX3_grow_36 : decode cX3_grow 36 = .ok (.getfield 24, 3) := by decide +kernel
theorem dX3_grow_39 : decode cX3_grow 39 = .ok (.iload_n 3, 1) := by decide +kernel
theorem dX3_grow_40 : decode cX3_grow 40 = .ok (.iaload, 1) := by decide +kernel
theorem dX3_grow_41 : decode cX3_grow 41 = .ok (.aaload, 1) := by decide +kernel
theorem dX3_grow_42 : decode cX3_grow 42 = .ok (.aload_n 0, 1) := by decide +kernel
theorem dX3_grow_43 : decode cX3_grow 43 = .ok (.getfield 30, 3) := by decide +kernel
theorem dX3_grow_46 : decode cX3_grow 46 = .ok (.iload_n 3, 1) := by decide +kernel
theorem dX3_grow_47 : decode cX3_grow 47 = .ok (.iconst 1, 1) := by decide +kernel
theorem dX3_grow_48 : decode cX3_grow 48 = .ok (.iadd, 1) := by decide +kernel
theorem dX3_grow_49 : decode cX3_grow 49 = .ok (.aaload, 1) := by decide +kernel
theorem dX3_grow_50 : decode cX3_grow 50 = .ok (.iload_n 2, 1) := by decide +kernel
theorem dX3_grow_51 : decode cX3_grow 51 = .ok (.invokevirtual 42, 3) := by decide +kernel
theorem dX3_grow_54 : decode cX3_grow 54 = .ok (.iinc 3 (-1), 3) := by decide +kernel
theorem dX3_grow_57 : decode cX3_grow 57 = .ok (.goto (-33), 3) := by decide +kernel
theorem dX3_grow_60 : decode cX3_grow 60 = .ok (.return_, 1) := by decide +kernel
theorem dX3_newestCounts_0 : decode cX3_newestCounts 0 = .ok (.aload_n 0, 1) := by decide +kernel
theorem dX3_newestCounts_1 : decode cX3_newestCounts 1 = .ok (.getfield 30, 3) := by decide +kernel
theorem dX3_newestCounts_4 : decode cX3_newestCounts 4 = .ok (.iconst 0, 1) := by decide +kernel
theorem dX3_newestCounts_5 : decode cX3_newestCounts 5 = .ok (.aaload, 1) := by decide +kernel
theorem dX3_newestCounts_6 : decode cX3_newestCounts 6 = .ok (.getfield 46, 3) := by decide +kernel
theorem dX3_newestCounts_9 : decode cX3_newestCounts 9 = .ok (.areturn, 1) := by decide +kernel
theorem dX3_split_0 : decode cX3_split 0 = .ok (.iload_n 2, 1) := by decide +kernel
theorem dX3_split_1 : decode cX3_split 1 = .ok (.istore 5, 2) := by decide +kernel
theorem dX3_split_3 : decode cX3_split 3 = .ok (.iconst 0, 1) := by decide +kernel
theorem dX3_split_4 : decode cX3_split 4 = .ok (.istore 6, 2) := by decide +kernel
theorem dX3_split_6 : decode cX3_split 6 = .ok (.iload 6, 2) := by decide +kernel
theorem dX3_split_8 : decode cX3_split 8 = .ok (.aload_n 0, 1) := by decide +kernel
theorem dX3_split_9 : decode cX3_split 9 = .ok (.getfield 21, 3) := by decide +kernel
theorem dX3_split_12 : decode cX3_split 12 = .ok (.if_icmp .ge 72, 3) := by decide +kernel
theorem dX3_split_15 : decode cX3_split 15 = .ok (.aload_n 1, 1) := by decide +kernel
theorem dX3_split_16 : decode cX3_split 16 = .ok (.aload_n 0, 1) := by decide +kernel
theorem dX3_split_17 : decode cX3_split 17 = .ok (.getfield 24, 3) := by decide +kernel
theorem dX3_split_20 : decode cX3_split 20 = .ok (.iload 6, 2) := by decide +kernel
theorem dX3_split_22 : decode cX3_split 22 = .ok (.iaload, 1) := by decide +kernel
theorem dX3_split_23 : decode cX3_split 23 = .ok (.aaload, 1) := by decide +kernel
theorem dX3_split_24 : decode cX3_split 24 = .ok (.astore 7, 2) := by decide +kernel
theorem dX3_split_26 : decode cX3_split 26 = .ok (.iconst 0, 1) := by decide +kernel
theorem dX3_split_27 : decode cX3_split 27 = .ok (.istore 8, 2) := by decide +kernel
theorem dX3_split_29 : decode cX3_split 29 = .ok (.iload 8, 2) := by decide +kernel
theorem dX3_split_31 : decode cX3_split 31 = .ok (.iload 5, 2) := by decide +kernel
theorem dX3_split_33 : decode cX3_split 33 = .ok (.if_icmp .ge 31, 3) := by decide +kernel
theorem dX3_split_36 : decode cX3_split 36 = .ok (.iload 8, 2) := by decide +kernel
theorem dX3_split_38 : decode cX3_split 38 = .ok (.iload 5, 2) := by decide +kernel
theorem dX3_split_40 : decode cX3_split 40 = .ok (.aload 7, 2) := by decide +kernel
theorem dX3_split_42 : decode cX3_split 42 = .ok (.aload_n 0, 1) := by decide +kernel
theorem dX3_split_43 : decode cX3_split 43 = .ok (.getfield 30, 3) := by decide +kernel
theorem dX3_split_46 : decode cX3_split 46 = .ok (.iload 6, 2) := by decide +kernel
theorem dX3_split_48 : decode cX3_split 48 = .ok (.iconst 1, 1) := by decide +kernel
theorem dX3_split_49 : decode cX3_split 49 = .ok (.iadd, 1) := by decide +kernel
theorem dX3_split_50 : decode cX3_split 50 = .ok (.aaload, 1) := by decide +kernel
theorem dX3_split_51 : decode cX3_split 51 = .ok (.iload_n 3, 1) := by decide +kernel
theorem dX3_split_52 : decode cX3_split 52 = .ok (.invokestatic 50, 3) := by decide +kernel
theorem dX3_split_55 : decode cX3_split 55 = .ok (.ifCond .ne 9, 3) := by decide +kernel
theorem dX3_split_58 : decode cX3_split 58 = .ok (.iinc 8 1, 3) := by decide +kernel
theorem dX3_split_61 : decode cX3_split 61 = .ok (.goto (-32), 3) := by decide +kernel
theorem dX3_split_64 : decode cX3_split 64 = .ok (.aload 4, 2) := by decide +kernel
theorem dX3_split_66 : decode cX3_split 66 = .ok (.iload 6, 2) := by decide +kernel
theorem dX3_split_68 : decode cX3_split 68 = .ok (.iload 8, 2) := by decide +kernel
theorem dX3_split_70 : decode cX3_split 70 = .ok (.iastore, 1) := by decide +kernel
theorem dX3_split_71 : decode cX3_split 71 = .ok (.iload 5, 2) := by decide +kernel
theorem dX3_split_73 : decode cX3_split 73 = .ok (.iload 8, 2) := by decide +kernel
theorem dX3_split_75 : decode cX3_split 75 = .ok (.isub, 1) := by decide +kernel
theorem dX3_split_76 : decode cX3_split 76 = .ok (.istore 5, 2) := by decide +kernel
theorem dX3_split_78 : decode cX3_split 78 = .ok (.iinc 6 1, 3) := by decide +kernel
theorem dX3_split_81 : decode cX3_split 81 = .ok (.goto (-75), 3) := by decide +kernel
theorem dX3_split_84 : decode cX3_split 84 = .ok (.return_, 1) := by decide +kernel
theorem dX3_canBegin_0 : decode cX3_canBegin 0 = .ok (.aload_n 2, 1) := by decide +kernel
theorem dX3_canBegin_1 : decode cX3_canBegin 1 = .ok (.getfield 54, 3) := by decide +kernel
theorem dX3_canBegin_4 : decode cX3_canBegin 4 = .ok (.iload_n 0, 1) := by decide +kernel
theorem dX3_canBegin_5 : decode cX3_canBegin 5 = .ok (.iaload, 1) := by decide +kernel
theorem dX3_canBegin_6 : decode cX3_canBegin 6 = .ok (.iload 4, 2) := by decide +kernel
theorem dX3_canBegin_8 : decode cX3_canBegin 8 = .ok (.if_icmp .ge 55, 3) := by decide +kernel
theorem dX3_canBegin_11 : decode cX3_canBegin 11 = .ok (.iload_n 0, 1) := by decide +kernel
theorem dX3_canBegin_12 : decode cX3_canBegin 12 = .ok (.bipush 7, 2) := by decide +kernel
theorem dX3_canBegin_14 : decode cX3_canBegin 14 = .ok (.iand, 1) := by decide +kernel
theorem dX3_canBegin_15 : decode cX3_canBegin 15 = .ok (.iload_n 1, 1) := by decide +kernel
theorem dX3_canBegin_16 : decode cX3_canBegin 16 = .ok (.bipush 7, 2) := by decide +kernel
theorem dX3_canBegin_18 : decode cX3_canBegin 18 = .ok (.iand, 1) := by decide +kernel
theorem dX3_canBegin_19 : decode cX3_canBegin 19 = .ok (.if_icmp .gt 44, 3) := by decide +kernel
theorem dX3_canBegin_22 : decode cX3_canBegin 22 = .ok (.iload_n 0, 1) := by decide +kernel
theorem dX3_canBegin_23 : decode cX3_canBegin 23 = .ok (.bipush 56, 2) := by decide +kernel
theorem dX3_canBegin_25 : decode cX3_canBegin 25 = .ok (.iand, 1) := by decide +kernel
theorem dX3_canBegin_26 : decode cX3_canBegin 26 = .ok (.iload_n 1, 1) := by decide +kernel
theorem dX3_canBegin_27 : decode cX3_canBegin 27 = .ok (.bipush 56, 2) := by decide +kernel
theorem dX3_canBegin_29 : decode cX3_canBegin 29 = .ok (.iand, 1) := by decide +kernel
theorem dX3_canBegin_30 : decode cX3_canBegin 30 = .ok (.if_icmp .gt 33, 3) := by decide +kernel
theorem dX3_canBegin_33 : decode cX3_canBegin 33 = .ok (.iload_n 0, 1) := by decide +kernel
theorem dX3_canBegin_34 : decode cX3_canBegin 34 = .ok (.sipush 448, 3) := by decide +kernel
theorem dX3_canBegin_37 : decode cX3_canBegin 37 = .ok (.iand, 1) := by decide +kernel
theorem dX3_canBegin_38 : decode cX3_canBegin 38 = .ok (.iload_n 1, 1) := by decide +kernel
theorem dX3_canBegin_39 : decode cX3_canBegin 39 = .ok (.sipush 448, 3) := by decide +kernel
theorem dX3_canBegin_42 : decode cX3_canBegin 42 = .ok (.iand, 1) := by decide +kernel
theorem dX3_canBegin_43 : decode cX3_canBegin 43 = .ok (.if_icmp .gt 20, 3) := by decide +kernel
theorem dX3_canBegin_46 : decode cX3_canBegin 46 = .ok (.aload_n 3, 1) := by decide +kernel
theorem dX3_canBegin_47 : decode cX3_canBegin 47 = .ok (.getfield 59, 3) := by decide +kernel
theorem dX3_canBegin_50 : decode cX3_canBegin 50 = .ok (.iload_n 1, 1) := by decide +kernel
theorem dX3_canBegin_51 : decode cX3_canBegin 51 = .ok (.iload_n 0, 1) := by decide +kernel
theorem dX3_canBegin_52 : decode cX3_canBegin 52 = .ok (.isub, 1) := by decide +kernel
theorem dX3_canBegin_53 : decode cX3_canBegin 53 = .ok (.iaload, 1) := by decide +kernel
theorem dX3_canBegin_54 : decode cX3_canBegin 54 = .ok (.iload 4, 2) := by decide +kernel
theorem dX3_canBegin_56 : decode cX3_canBegin 56 = .ok (.if_icmp .gt 7, 3) := by decide +kernel
theorem dX3_canBegin_59 : decode cX3_canBegin 59 = .ok (.iconst 1, 1) := by decide +kernel
theorem dX3_canBegin_60 : decode cX3_canBegin 60 = .ok (.goto 4, 3) := by decide +kernel
theorem dX3_canBegin_63 : decode cX3_canBegin 63 = .ok (.iconst 0, 1) := by decide +kernel
theorem dX3_canBegin_64 : decode cX3_canBegin 64 = .ok (.ireturn, 1) := by decide +kernel
theorem dX4_init_0 : decode cX4_init 0 = .ok (.aload_n 0, 1) := by decide +kernel
theorem dX4_init_1 : decode cX4_init 1 = .ok (.invokespecial 3, 3) := by decide +kernel
theorem dX4_init_4 : decode cX4_init 4 = .ok (.aload_n 0, 1) := by decide +kernel
theorem dX4_init_5 : decode cX4_init 5 = .ok (.sipush 500, 3) := by decide +kernel
theorem dX4_init_8 : decode cX4_init 8 = .ok (.newarray .int, 2) := by decide +kernel
theorem dX4_init_10 : decode cX4_init 10 = .ok (.putfield 9, 3) := by decide +kernel
theorem dX4_init_13 : decode cX4_init 13 = .ok (.aload_n 0, 1) := by decide +kernel
theorem dX4_init_14 : decode cX4_init 14 = .ok (.bipush 10, 2) := by decide +kernel
theorem dX4_init_16 : decode cX4_init 16 = .ok (.newarray .int, 2) := by decide +kernel
theorem dX4_init_18 : decode cX4_init 18 = .ok (.putfield 15, 3) := by decide +kernel
theorem dX4_init_21 : decode cX4_init 21 = .ok (.aload_n 0, 1) := by decide +kernel
theorem dX4_init_22 : decode cX4_init 22 = .ok (.iconst 0, 1) := by decide +kernel
theorem dX4_init_23 : decode cX4_init 23 = .ok (.putfield 18, 3) := by decide +kernel
theorem dX4_init_26 : decode cX4_init 26 = .ok (.aload_n 0, 1) := by decide +kernel
theorem dX4_init_27 : decode cX4_init 27 = .ok (.sipush 500, 3) := by decide +kernel
theorem dX4_init_30 : decode cX4_init 30 = .ok (.newarray .int, 2) := by decide +kernel
theorem dX4_init_32 : decode cX4_init 32 = .ok (.putfield 22, 3) := by decide +kernel
theorem dX4_init_35 : decode cX4_init 35 = .ok (.aload_n 0, 1) := by decide +kernel
theorem dX4_init_36 : decode cX4_init 36 = .ok (.sipush 500, 3) := by decide +kernel
theorem dX4_init_39 : decode cX4_init 39 = .ok (.newarray .int, 2) := by decide +kernel
theorem dX4_init_41 : decode cX4_init 41 = .ok (.putfield 25, 3) := by decide +kernel
theorem dX4_init_44 : decode cX4_init 44 = .ok (.aload_n 0, 1) := by decide +kernel
theorem dX4_init_45 : decode cX4_init 45 = .ok (.iconst 0, 1) := by decide +kernel
theorem dX4_init_46 : decode cX4_init 46 = .ok (.putfield 28, 3) := by decide +kernel
theorem dX4_init_49 : decode cX4_init 49 = .ok (.aload_n 0, 1) := by decide +kernel
theorem dX4_init_50 : decode cX4_init 50 = .ok (.iconst 4, 1) := by decide +kernel
theorem dX4_init_51 : decode cX4_init 51 = .ok (.newarray .int, 2) := by decide +kernel
theorem dX4_init_53 : decode cX4_init 53 = .ok (.putfield 31, 3) := by decide +kernel
theorem dX4_init_56 : decode cX4_init 56 = .ok (.return_, 1) := by decide +kernel
theorem dX4_through_0 : decode cX4_through 0 = .ok (.aload_n 0, 1) := by decide +kernel
theorem dX4_through_1 : decode cX4_through 1 = .ok (.iconst 0, 1) := by decide +kernel
theorem dX4_through_2 : decode cX4_through 2 = .ok (.putfield 18, 3) := by decide +kernel
theorem dX4_through_5 : decode cX4_through 5 = .ok (.aload_n 0, 1) := by decide +kernel
theorem dX4_through_6 : decode cX4_through 6 = .ok (.iconst 0, 1) := by decide +kernel
theorem dX4_through_7 : decode cX4_through 7 = .ok (.putfield 28, 3) := by decide +kernel
theorem dX4_through_10 : decode cX4_through 10 = .ok (.aload_n 0, 1) := by decide +kernel
theorem dX4_through_11 : decode cX4_through 11 = .ok (.getfield 15, 3) := by decide +kernel
theorem dX4_through_14 : decode cX4_through 14 = .ok (.iconst 0, 1) := by decide +kernel
theorem dX4_through_15 : decode cX4_through 15 = .ok (.invokestatic 34, 3) := by decide +kernel
theorem dX4_through_18 : decode cX4_through 18 = .ok (.aload_n 0, 1) := by decide +kernel
theorem dX4_through_19 : decode cX4_through 19 = .ok (.iload_n 3, 1) := by decide +kernel
theorem dX4_through_20 : decode cX4_through 20 = .ok (.iload 4, 2) := by decide +kernel
theorem dX4_through_22 : decode cX4_through 22 = .ok (.invokevirtual 40, 3) := by decide +kernel
theorem dX4_through_25 : decode cX4_through 25 = .ok (.aload_n 0, 1) := by decide +kernel
theorem dX4_through_26 : decode cX4_through 26 = .ok (.getfield 28, 3) := by decide +kernel
theorem dX4_through_29 : decode cX4_through 29 = .ok (.ifCond .le 159, 3) := by decide +kernel
theorem dX4_through_32 : decode cX4_through 32 = .ok (.aload_n 0, 1) := by decide +kernel
theorem dX4_through_33 : decode cX4_through 33 = .ok (.getfield 18, 3) := by decide +kernel
theorem dX4_through_36 : decode cX4_through 36 = .ok (.sipush 500, 3) := by decide +kernel
theorem dX4_through_39 : decode cX4_through 39 = .ok (.if_icmp .ge 149, 3) := by decide +kernel
theorem dX4_through_42 : decode cX4_through 42 = .ok (.aload_n 0, 1) := by decide +kernel
theorem dX4_through_43 : decode cX4_through 43 = .ok (.dup, 1) := by decide +kernel
theorem dX4_through_44 : decode cX4_through 44 = .ok (.getfield 28, 3) := by decide +kernel
theorem dX4_through_47 : decode cX4_through 47 = .ok (.iconst 1, 1) := by decide +kernel
theorem dX4_through_48 : decode cX4_through 48 = .ok (.isub, 1) := by decide +kernel
theorem dX4_through_49 : decode cX4_through 49 = .ok (.putfield 28, 3) := by decide +kernel
theorem dX4_through_52 : decode cX4_through 52 = .ok (.aload_n 1, 1) := by decide +kernel
theorem dX4_through_53 : decode cX4_through 53 = .ok (.aload_n 0, 1) := by decide +kernel
theorem dX4_through_54 : decode cX4_through 54 = .ok (.getfield 22, 3) := by decide +kernel
theorem dX4_through_57 : decode cX4_through 57 = .ok (.aload_n 0, 1) := by decide +kernel
theorem dX4_through_58 : decode cX4_through 58 = .ok (.getfield 28, 3) := by decide +kernel
theorem dX4_through_61 : decode cX4_through 61 = .ok (.iaload, 1) := by decide +kernel
theorem dX4_through_62 : decode cX4_through 62 = .ok (.aaload, 1) := by decide +kernel
theorem dX4_through_63 : decode cX4_through 63 = .ok (.astore 5, 2) := by decide +kernel
theorem dX4_through_65 : decode cX4_through 65 = .ok (.aload_n 0, 1) := by decide +kernel
theorem dX4_through_66 : decode cX4_through 66 = .ok (.getfield 25, 3) := by decide +kernel
theorem dX4_through_69 : decode cX4_through 69 = .ok (.aload_n 0, 1) := by decide +kernel
theorem dX4_through_70 : decode cX4_through 70 = .ok (.getfield 28, 3) := by decide +kernel
theorem dX4_through_73 : decode cX4_through 73 = .ok (.iaload, 1) := by decide +kernel
theorem dX4_through_74 : decode cX4_through 74 = .ok (.istore 6, 2) := by decide +kernel
theorem dX4_through_76 : decode cX4_through 76 = .ok (.aload 5, 2) := by decide +kernel
theorem dX4_through_78 : decode cX4_through 78 = .ok (.getfield 44, 3) := by decide +kernel
theorem dX4_through_81 : decode cX4_through 81 = .ok (.iload 6, 2) := by decide +kernel
theorem dX4_through_83 : decode cX4_through 83 = .ok (.iaload, 1) := by decide +kernel
theorem dX4_through_84 : decode cX4_through 84 = .ok (.istore 7, 2) := by decide +kernel
theorem dX4_through_86 : decode cX4_through 86 = .ok (.aload_n 0, 1) := by decide +kernel
theorem dX4_through_87 : decode cX4_through 87 = .ok (.getfield 9, 3) := by decide +kernel
theorem dX4_through_90 : decode cX4_through 90 = .ok (.aload_n 0, 1) := by decide +kernel
theorem dX4_through_91 : decode cX4_through 91 = .ok (.getfield 18, 3) := by decide +kernel
theorem dX4_through_94 : decode cX4_through 94 = .ok (.iload 7, 2) := by decide +kernel
theorem dX4_through_96 : decode cX4_through 96 = .ok (.iastore, 1) := by decide +kernel
theorem dX4_through_97 : decode cX4_through 97 = .ok (.aload_n 0, 1) := by decide +kernel
theorem dX4_through_98 : decode cX4_through 98 = .ok (.dup, 1) := by decide +kernel
theorem dX4_through_99 : decode cX4_through 99 = .ok (.getfield 18, 3) := by decide +kernel
theorem dX4_through_102 : decode cX4_through 102 = .ok (.iconst 1, 1) := by decide +kernel
theorem dX4_through_103 : decode cX4_through 103 = .ok (.iadd, 1) := by decide +kernel
theorem dX4_through_104 : decode cX4_through 104 = .ok (.putfield 18, 3) := by decide +kernel
theorem dX4_through_107 : decode cX4_through 107 = .ok (.aload_n 0, 1) := by decide +kernel
theorem dX4_through_108 : decode cX4_through 108 = .ok (.getfield 15, 3) := by decide +kernel
theorem dX4_through_111 : decode cX4_through 111 = .ok (.iload 7, 2) := by decide +kernel
theorem dX4_through_113 : decode cX4_through 113 = .ok (.dup2, 1) := by decide +kernel
theorem dX4_through_114 : decode cX4_through 114 = .ok (.iaload, 1) := by decide +kernel
theorem dX4_through_115 : decode cX4_through 115 = .ok (.iconst 1, 1) := by decide +kernel
theorem dX4_through_116 : decode cX4_through 116 = .ok (.iadd, 1) := by decide +kernel
theorem dX4_through_117 : decode cX4_through 117 = .ok (.iastore, 1) := by decide +kernel
theorem dX4_through_118 : decode cX4_through 118 = .ok (.aload_n 2, 1) := by decide +kernel
theorem dX4_through_119 : decode cX4_through 119 = .ok (.iload 7, 2) := by decide +kernel
theorem dX4_through_121 : decode cX4_through 121 = .ok (.aaload, 1) := by decide +kernel
theorem dX4_through_122 : decode cX4_through 122 = .ok (.astore 8, 2) := by decide +kernel
theorem dX4_through_124 : decode cX4_through 124 = .ok (.aload_n 0, 1) := by decide +kernel
theorem dX4_through_125 : decode cX4_through 125 = .ok (.getfield 15, 3) := by decide +kernel
theorem dX4_through_128 : decode cX4_through 128 = .ok (.iload 7, 2) := by decide +kernel
theorem dX4_through_130 : decode cX4_through 130 = .ok (.iaload, 1) := by decide +kernel
theorem dX4_through_131 : decode cX4_through 131 = .ok (.bipush 50, 2) := by decide +kernel
theorem dX4_through_133 : decode cX4_through 133 = .ok (.if_icmp .gt 24, 3) := by decide +kernel
theorem dX4_through_136 : decode cX4_through 136 = .ok (.aload_n 0, 1) := by decide +kernel
theorem dX4_through_137 : decode cX4_through 137 = .ok (.getfield 18, 3) := by decide +kernel
theorem dX4_through_140 : decode cX4_through 140 = .ok (.aload_n 0, 1) := by decide +kernel
theorem dX4_through_141 : decode cX4_through 141 = .ok (.getfield 28, 3) := by decide +kernel
theorem dX4_through_144 : decode cX4_through 144 = .ok (.iadd, 1) := by decide +kernel
theorem dX4_through_145 : decode cX4_through 145 = .ok (.aload 8, 2) := by decide +kernel
theorem dX4_through_147 : decode cX4_through 147 = .ok (.getfield 49, 3) := by decide +kernel
theorem dX4_through_150 : decode cX4_through 150 = .ok (.iadd, 1) := by decide +kernel
theorem dX4_through_151 : decode cX4_through 151 = .ok (.sipush 500, 3) := by decide +kernel
theorem dX4_through_154 : decode cX4_through 154 = .ok (.if_icmp .le 5, 3) := by decide +kernel
theorem dX4_through_157 : decode cX4_through 157 = .ok (.iconst 0, 1) := by decide +kernel
theorem dX4_through_158 : decode cX4_through 158 = .ok (.ireturn, 1) := by decide +kernel
theorem dX4_through_159 : decode cX4_through 159 = .ok (.aload 8, 2) := by decide +kernel
theorem dX4_through_161 : decode cX4_through 161 = .ok (.aload_n 1, 1) := by decide +kernel
theorem dX4_through_162 : decode cX4_through 162 = .ok (.iload 6, 2) := by decide +kernel
theorem dX4_through_164 : decode cX4_through 164 = .ok (.aload 5, 2) := by decide +kernel
theorem dX4_through_166 : decode cX4_through 166 = .ok (.getfield 52, 3) := by decide +kernel
theorem dX4_through_169 : decode cX4_through 169 = .ok (.iload 6, 2) := by decide +kernel
theorem dX4_through_171 : decode cX4_through 171 = .ok (.iaload, 1) := by decide +kernel
theorem dX4_through_172 : decode cX4_through 172 = .ok (.aload_n 0, 1) := by decide +kernel
theorem dX4_through_173 : decode cX4_through 173 = .ok (.getfield 31, 3) := by decide +kernel
theorem dX4_through_176 : decode cX4_through 176 = .ok (.invokevirtual 55, 3) := by decide +kernel
theorem dX4_through_179 : decode cX4_through 179 = .ok (.aload_n 0, 1) := by decide +kernel
theorem dX4_through_180 : decode cX4_through 180 = .ok (.aload 8, 2) := by decide +kernel
theorem dX4_through_182 : decode cX4_through 182 = .ok (.invokevirtual 59, 3) := by decide +kernel
theorem dX4_through_185 : decode cX4_through 185 = .ok (.goto (-160), 3) := by decide +kernel
theorem dX4_through_188 : decode cX4_through 188 = .ok (.aload_n 0, 1) := by decide +kernel
theorem dX4_through_189 : decode cX4_through 189 = .ok (.getfield 28, 3) := by decide +kernel
theorem dX4_through_192 : decode cX4_through 192 = .ok (.ifCond .ne 7, 3) := by decide +kernel
theorem dX4_through_195 : decode cX4_through 195 = .ok (.iconst 1, 1) := by decide +kernel
theorem dX4_through_196 : decode cX4_through 196 = .ok (.goto 4, 3) := by decide +kernel
theorem dX4_through_199 : decode cX4_through 199 = .ok (.iconst 0, 1) := by decide +kernel
theorem dX4_through_200 : decode cX4_through 200 = .ok (.ireturn, 1) := by decide +kernel
theorem dX4_openBelow_0 : decode cX4_openBelow 0 = .ok (.aload_n 1, 1) := by decide +kernel
theorem dX4_openBelow_1 : decode cX4_openBelow 1 = .ok (.getfield 49, 3) := by decide +kernel
theorem dX4_openBelow_4 : decode cX4_openBelow 4 = .ok (.iconst 1, 1) := by decide +kernel
theorem dX4_openBelow_5 : decode cX4_openBelow 5 = .ok (.isub, 1) := by decide +kernel
theorem dX4_openBelow_6 : decode cX4_openBelow 6 = .ok (.istore_n 2, 1) := by decide +kernel
theorem dX4_openBelow_7 : decode cX4_openBelow 7 = .ok (.iload_n 2, 1) := by decide +kernel
theorem dX4_openBelow_8 : decode cX4_openBelow 8 = .ok (.ifCond .lt 25, 3) := by decide +kernel
theorem dX4_openBelow_11 : decode cX4_openBelow 11 = .ok (.aload_n 0, 1) := by decide +kernel
theorem dX4_openBelow_12 : decode cX4_openBelow 12 = .ok (.aload_n 1, 1) := by decide +kernel
theorem dX4_openBelow_13 : decode cX4_openBelow 13 = .ok (.getfield 63, 3) := by decide +kernel
theorem dX4_openBelow_16 : decode cX4_openBelow 16 = .ok (.iload_n 2, 1) := by decide +kernel
theorem dX4_openBelow_17 : decode cX4_openBelow 17 = .ok (.iaload, 1) := by decide +kernel
theorem dX4_openBelow_18 : decode cX4_openBelow 18 = .ok (.aload_n 0, 1) := by decide +kernel
theorem dX4_openBelow_19 : decode cX4_openBelow 19 = .ok (.getfield 31, 3) := by decide +kernel
theorem dX4_openBelow_22 : decode cX4_openBelow 22 = .ok (.iload_n 2, 1) := by decide +kernel
theorem dX4_openBelow_23 : decode cX4_openBelow 23 = .ok (.iaload, 1) := by decide +kernel
theorem dX4_openBelow_24 : decode cX4_openBelow 24 = .ok (.invokevirtual 40, 3) := by decide +kernel
theorem dX4_openBelow_27 : decode cX4_openBelow 27 = .ok (.iinc 2 (-1), 3) := by decide +kernel
theorem dX4_openBelow_30 : decode cX4_openBelow 30 = .ok (.goto (-23), 3) := by decide +kernel
theorem dX4_openBelow_33 : decode cX4_openBelow 33 = .ok (.return_, 1) := by decide +kernel
theorem dX4_openTree_0 : decode cX4_openTree 0 = .ok (.aload_n 0, 1) := by decide +kernel
theorem dX4_openTree_1 : decode cX4_openTree 1 = .ok (.getfield 22, 3) := by decide +kernel
theorem dX4_openTree_4 : decode cX4_openTree 4 = .ok (.aload_n 0, 1) := by decide +kernel
theorem dX4_openTree_5 : decode cX4_openTree 5 = .ok (.getfield 28, 3) := by decide +kernel
theorem dX4_openTree_8 : decode cX4_openTree 8 = .ok (.iload_n 1, 1) := by decide +kernel
theorem dX4_openTree_9 : decode cX4_openTree 9 = .ok (.iastore, 1) := by decide +kernel
theorem dX4_openTree_10 : decode cX4_openTree 10 = .ok (.aload_n 0, 1) := by decide +kernel
theorem dX4_openTree_11 : decode cX4_openTree 11 = .ok (.getfield 25, 3) := by decide +kernel
theorem dX4_openTree_14 : decode cX4_openTree 14 = .ok (.aload_n 0, 1) := by decide +kernel
theorem dX4_openTree_15 : decode cX4_openTree 15 = .ok (.getfield 28, 3) := by decide +kernel
theorem dX4_openTree_18 : decode cX4_openTree 18 = .ok (.iload_n 2, 1) := by decide +kernel
theorem dX4_openTree_19 : decode cX4_openTree 19 = .ok (.iastore, 1) := by decide +kernel
theorem dX4_openTree_20 : decode cX4_openTree 20 = .ok (.aload_n 0, 1) := by decide +kernel
theorem dX4_openTree_21 : decode cX4_openTree 21 = .ok (.dup, 1) := by decide +kernel
theorem dX4_openTree_22 : decode cX4_openTree 22 = .ok (.getfield 28, 3) := by decide +kernel
theorem dX4_openTree_25 : decode cX4_openTree 25 = .ok (.iconst 1, 1) := by decide +kernel
theorem dX4_openTree_26 : decode cX4_openTree 26 = .ok (.iadd, 1) := by decide +kernel
theorem dX4_openTree_27 : decode cX4_openTree 27 = .ok (.putfield 28, 3) := by decide +kernel
theorem dX4_openTree_30 : decode cX4_openTree 30 = .ok (.return_, 1) := by decide +kernel
theorem dX5_init_0 : decode cX5_init 0 = .ok (.aload_n 0, 1) := by decide +kernel
theorem dX5_init_1 : decode cX5_init 1 = .ok (.invokespecial 3, 3) := by decide +kernel
theorem dX5_init_4 : decode cX5_init 4 = .ok (.aload_n 0, 1) := by decide +kernel
theorem dX5_init_5 : decode cX5_init 5 = .ok (.iconst 5, 1) := by decide +kernel
theorem dX5_init_6 : decode cX5_init 6 = .ok (.anewarray 9, 3) := by decide +kernel
theorem dX5_init_9 : decode cX5_init 9 = .ok (.putfield 11, 3) := by decide +kernel
theorem dX5_init_12 : decode cX5_init 12 = .ok (.aload_n 0, 1) := by decide +kernel
theorem dX5_init_13 : decode cX5_init 13 = .ok (.bipush 10, 2) := by decide +kernel
theorem dX5_init_15 : decode cX5_init 15 = .ok (.anewarray 15, 3) := by decide +kernel
theorem dX5_init_18 : decode cX5_init 18 = .ok (.putfield 17, 3) := by decide +kernel
theorem dX5_init_21 : decode cX5_init 21 = .ok (.aload_n 0, 1) := by decide +kernel
theorem dX5_init_22 : decode cX5_init 22 = .ok (.iconst 0, 1) := by decide +kernel
theorem dX5_init_23 : decode cX5_init 23 = .ok (.putfield 21, 3) := by decide +kernel
theorem dX5_init_26 : decode cX5_init 26 = .ok (.aload_n 0, 1) := by decide +kernel
theorem dX5_init_27 : decode cX5_init 27 = .ok (.iconst 1, 1) := by decide +kernel
theorem dX5_init_28 : decode cX5_init 28 = .ok (.putfield 25, 3) := by decide +kernel
theorem dX5_init_31 : decode cX5_init 31 = .ok (.aload_n 0, 1) := by decide +kernel
theorem dX5_init_32 : decode cX5_init 32 = .ok (.sipush 500, 3) := by decide +kernel
theorem dX5_init_35 : decode cX5_init 35 = .ok (.newarray .int, 2) := by decide +kernel
theorem dX5_init_37 : decode cX5_init 37 = .ok (.putfield 29, 3) := by decide +kernel
theorem dX5_init_40 : decode cX5_init 40 = .ok (.aload_n 0, 1) := by decide +kernel
theorem dX5_init_41 : decode cX5_init 41 = .ok (.iconst 0, 1) := by decide +kernel
theorem dX5_init_42 : decode cX5_init 42 = .ok (.putfield 33, 3) := by decide +kernel
theorem dX5_init_45 : decode cX5_init 45 = .ok (.aload_n 0, 1) := by decide +kernel
theorem dX5_init_46 : decode cX5_init 46 = .ok (.new 36, 3) := by decide +kernel
theorem dX5_init_49 : decode cX5_init 49 = .ok (.dup, 1) := by decide +kernel
theorem dX5_init_50 : decode cX5_init 50 = .ok (.invokespecial 38, 3) := by decide +kernel
theorem dX5_init_53 : decode cX5_init 53 = .ok (.putfield 39, 3) := by decide +kernel
theorem dX5_init_56 : decode cX5_init 56 = .ok (.iconst 0, 1) := by decide +kernel
theorem dX5_init_57 : decode cX5_init 57 = .ok (.istore_n 1, 1) := by decide +kernel
theorem dX5_init_58 : decode cX5_init 58 = .ok (.iload_n 1, 1) := by decide +kernel
theorem dX5_init_59 : decode cX5_init 59 = .ok (.iconst 5, 1) := by decide +kernel
theorem dX5_init_60 : decode cX5_init 60 = .ok (.if_icmp .ge 22, 3) := by decide +kernel
theorem dX5_init_63 : decode cX5_init 63 = .ok (.aload_n 0, 1) := by decide +kernel
theorem dX5_init_64 : decode cX5_init 64 = .ok (.getfield 11, 3) := by decide +kernel
theorem dX5_init_67 : decode cX5_init 67 = .ok (.iload_n 1, 1) := by decide +kernel
theorem dX5_init_68 : decode cX5_init 68 = .ok (.new 9, 3) := by decide +kernel
theorem dX5_init_71 : decode cX5_init 71 = .ok (.dup, 1) := by decide +kernel
theorem dX5_init_72 : decode cX5_init 72 = .ok (.invokespecial 43, 3) := by decide +kernel
theorem dX5_init_75 : decode cX5_init 75 = .ok (.aastore, 1) := by decide +kernel
theorem dX5_init_76 : decode cX5_init 76 = .ok (.iinc 1 1, 3) := by decide +kernel
theorem dX5_init_79 : decode cX5_init 79 = .ok (.goto (-21), 3) := by decide +kernel
theorem dX5_init_82 : decode cX5_init 82 = .ok (.return_, 1) := by decide +kernel
theorem dX5_rule_0 : decode cX5_rule 0 = .ok (.iload_n 1, 1) := by decide +kernel
theorem dX5_rule_1 : decode cX5_rule 1 = .ok (.invokestatic 44, 3) := by decide +kernel
theorem dX5_rule_4 : decode cX5_rule 4 = .ok (.iload_n 2, 1) := by decide +kernel
theorem dX5_rule_5 : decode cX5_rule 5 = .ok (.invokestatic 48, 3) := by decide +kernel
theorem dX5_rule_8 : decode cX5_rule 8 = .ok (.iload_n 3, 1) := by decide +kernel
theorem dX5_rule_9 : decode cX5_rule 9 = .ok (.invokestatic 48, 3) := by decide +kernel
theorem dX5_rule_12 : decode cX5_rule 12 = .ok (.iload 4, 2) := by decide +kernel
theorem dX5_rule_14 : decode cX5_rule 14 = .ok (.invokestatic 48, 3) := by decide +kernel
theorem dX5_rule_17 : decode cX5_rule 17 = .ok (.iload 5, 2) := by decide +kernel
theorem dX5_rule_19 : decode cX5_rule 19 = .ok (.invokestatic 48, 3) := by decide +kernel
theorem dX5_rule_22 : decode cX5_rule 22 = .ok (.aload_n 0, 1) := by decide +kernel
theorem dX5_rule_23 : decode cX5_rule 23 = .ok (.getfield 21, 3) := by decide +kernel
theorem dX5_rule_26 : decode cX5_rule 26 = .ok (.bipush 10, 2) := by decide +kernel
theorem dX5_rule_28 : decode cX5_rule 28 = .ok (.if_icmp .lt 13, 3) := by decide +kernel
theorem dX5_rule_31 : decode cX5_rule 31 = .ok (.new 51, 3) := by decide +kernel
theorem dX5_rule_34 : decode cX5_rule 34 = .ok (.dup, 1) := by decide +kernel
theorem dX5_rule_35 : decode cX5_rule 35 = .ok (.ldc 53, 2) := by decide +kernel
theorem dX5_rule_37 : decode cX5_rule 37 = .ok (.invokespecial 55, 3) := by decide +kernel
theorem dX5_rule_40 : decode cX5_rule 40 = .ok (.athrow, 1) := by decide +kernel
theorem dX5_rule_41 : decode cX5_rule 41 = .ok (.aload_n 0, 1) := by decide +kernel
theorem dX5_rule_42 : decode cX5_rule 42 = .ok (.getfield 17, 3) := by decide +kernel
theorem dX5_rule_45 : decode cX5_rule 45 = .ok (.aload_n 0, 1) := by decide +kernel
theorem dX5_rule_46 : decode cX5_rule 46 = .ok (.getfield 21, 3) := by decide +kernel
theorem dX5_rule_49 : decode cX5_rule 49 = .ok (.aaload, 1) := by decide +kernel
theorem dX5_rule_50 : decode cX5_rule 50 = .ok (.ifnonnull 19, 3) := by decide +kernel
theorem dX5_rule_53 : decode cX5_rule 53 = .ok (.aload_n 0, 1) := by decide +kernel
theorem dX5_rule_54 : decode cX5_rule 54 = .ok (.getfield 17, 3) := by decide +kernel
theorem dX5_rule_57 : decode cX5_rule 57 = .ok (.aload_n 0, 1) := by decide +kernel
theorem dX5_rule_58 : decode cX5_rule 58 = .ok (.getfield 21, 3) := by decide +kernel
theorem dX5_rule_61 : decode cX5_rule 61 = .ok (.new 15, 3) := by decide +kernel
theorem dX5_rule_64 : decode cX5_rule 64 = .ok (.dup, 1) := by decide +kernel
theorem dX5_rule_65 : decode cX5_rule 65 = .ok (.invokespecial 58, 3) := by decide +kernel
theorem dX5_rule_68 : decode cX5_rule 68 = .ok (.aastore, 1) := by decide +kernel
theorem dX5_rule_69 : decode cX5_rule 69 = .ok (.aload_n 0, 1) := by decide +kernel
theorem dX5_rule_70 : decode cX5_rule 70 = .ok (.getfield 17, 3) := by decide +kernel
theorem dX5_rule_73 : decode cX5_rule 73 = .ok (.aload_n 0, 1) := by decide +kernel
theorem dX5_rule_74 : decode cX5_rule 74 = .ok (.getfield 21, 3) := by decide +kernel
theorem dX5_rule_77 : decode cX5_rule 77 = .ok (.aaload, 1) := by decide +kernel
theorem dX5_rule_78 : decode cX5_rule 78 = .ok (.astore 6, 2) := by decide +kernel
theorem dX5_rule_80 : decode cX5_rule 80 = .ok (.aload 6, 2) := by decide +kernel
theorem dX5_rule_82 : decode cX5_rule 82 = .ok (.iload_n 1, 1) := by decide +kernel
theorem dX5_rule_83 : decode cX5_rule 83 = .ok (.invokevirtual 59, 3) := by decide +kernel
theorem dX5_rule_86 : decode cX5_rule 86 = .ok (.aload 6, 2) := by decide +kernel
theorem dX5_rule_88 : decode cX5_rule 88 = .ok (.iload_n 2, 1) := by decide +kernel
theorem dX5_rule_89 : decode cX5_rule 89 = .ok (.invokevirtual 62, 3) := by decide +kernel
theorem dX5_rule_92 : decode cX5_rule 92 = .ok (.aload 6, 2) := by decide +kernel
theorem dX5_rule_94 : decode cX5_rule 94 = .ok (.iload_n 3, 1) := by decide +kernel
theorem dX5_rule_95 : decode cX5_rule 95 = .ok (.invokevirtual 62, 3) := by decide +kernel
theorem dX5_rule_98 : decode cX5_rule 98 = .ok (.aload 6, 2) := by decide +kernel
theorem dX5_rule_100 : decode cX5_rule 100 = .ok (.iload 4, 2) := by decide +kernel
theorem dX5_rule_102 : decode cX5_rule 102 = .ok (.invokevirtual 62, 3) := by decide +kernel
theorem dX5_rule_105 : decode cX5_rule 105 = .ok (.aload 6, 2) := by decide +kernel
theorem dX5_rule_107 : decode cX5_rule 107 = .ok (.iload 5, 2) := by decide +kernel
theorem dX5_rule_109 : decode cX5_rule 109 = .ok (.invokevirtual 62, 3) := by decide +kernel
theorem dX5_rule_112 : decode cX5_rule 112 = .ok (.aload_n 0, 1) := by decide +kernel
theorem dX5_rule_113 : decode cX5_rule 113 = .ok (.dup, 1) := by decide +kernel
theorem dX5_rule_114 : decode cX5_rule 114 = .ok (.getfield 21, 3) := by decide +kernel
theorem dX5_rule_117 : decode cX5_rule 117 = .ok (.iconst 1, 1) := by decide +kernel
theorem dX5_rule_118 : decode cX5_rule 118 = .ok (.iadd, 1) := by decide +kernel
theorem dX5_rule_119 : decode cX5_rule 119 = .ok (.putfield 21, 3) := by decide +kernel
theorem dX5_rule_122 : decode cX5_rule 122 = .ok (.aload_n 0, 1) := by decide +kernel
theorem dX5_rule_123 : decode cX5_rule 123 = .ok (.invokevirtual 65, 3) := by decide +kernel
theorem dX5_rule_126 : decode cX5_rule 126 = .ok (.aload_n 0, 1) := by decide +kernel
theorem dX5_rule_127 : decode cX5_rule 127 = .ok (.getfield 21, 3) := by decide +kernel
theorem dX5_rule_130 : decode cX5_rule 130 = .ok (.iconst 1, 1) := by decide +kernel
theorem dX5_rule_131 : decode cX5_rule 131 = .ok (.isub, 1) := by decide +kernel
theorem dX5_rule_132 : decode cX5_rule 132 = .ok (.ireturn, 1) := by decide +kernel
theorem dX5_clear_0 : decode cX5_clear 0 = .ok (.aload_n 0, 1) := by decide +kernel
theorem dX5_clear_1 : decode cX5_clear 1 = .ok (.iconst 0, 1) := by decide +kernel
theorem dX5_clear_2 : decode cX5_clear 2 = .ok (.putfield 21, 3) := by decide +kernel
theorem dX5_clear_5 : decode cX5_clear 5 = .ok (.aload_n 0, 1) := by decide +kernel
theorem dX5_clear_6 : decode cX5_clear 6 = .ok (.invokevirtual 65, 3) := by decide +kernel
theorem dX5_clear_9 : decode cX5_clear 9 = .ok (.return_, 1) := by decide +kernel
theorem dX5_height_0 : decode cX5_height 0 = .ok (.iload_n 1, 1) := by decide +kernel
theorem dX5_height_1 : decode cX5_height 1 = .ok (.invokestatic 44, 3) := by decide +kernel
theorem dX5_height_4 : decode cX5_height 4 = .ok (.iload_n 2, 1) := by decide +kernel
theorem dX5_height_5 : decode cX5_height 5 = .ok (.iload_n 3, 1) := by decide +kernel
theorem dX5_height_6 : decode cX5_height 6 = .ok (.iload 4, 2) := by decide +kernel
theorem dX5_height_8 : decode cX5_height 8 = .ok (.invokestatic 68, 3) := by decide +kernel
theorem dX5_height_11 : decode cX5_height 11 = .ok (.istore 5, 2) := by decide +kernel
theorem dX5_height_13 : decode cX5_height 13 = .ok (.aload_n 0, 1) := by decide +kernel
theorem dX5_height_14 : decode cX5_height 14 = .ok (.invokevirtual 72, 3) := by decide +kernel
theorem dX5_height_17 : decode cX5_height 17 = .ok (.aload_n 0, 1) := by decide +kernel
theorem dX5_height_18 : decode cX5_height 18 = .ok (.getfield 11, 3) := by decide +kernel
theorem dX5_height_21 : decode cX5_height 21 = .ok (.iload_n 1, 1) := by decide +kernel
theorem dX5_height_22 : decode cX5_height 22 = .ok (.aaload, 1) := by decide +kernel
theorem dX5_height_23 : decode cX5_height 23 = .ok (.getfield 75, 3) := by decide +kernel
theorem dX5_height_26 : decode cX5_height 26 = .ok (.iload 5, 2) := by decide +kernel
theorem dX5_height_28 : decode cX5_height 28 = .ok (.iaload, 1) := by decide +kernel
theorem dX5_height_29 : decode cX5_height 29 = .ok (.istore 6, 2) := by decide +kernel
theorem dX5_height_31 : decode cX5_height 31 = .ok (.iload 6, 2) := by decide +kernel
theorem dX5_height_33 : decode cX5_height 33 = .ok (.ldc 78, 2) := by decide +kernel
theorem dX5_height_35 : decode cX5_height 35 = .ok (.if_icmp .ne 7, 3) := by decide +kernel
theorem dX5_height_38 : decode cX5_height 38 = .ok (.iconst (-1), 1) := by decide +kernel
theorem dX5_height_39 : decode cX5_height 39 = .ok (.goto 5, 3) := by decide +kernel
theorem dX5_height_42 : decode cX5_height 42 = .ok (.iload 6, 2) := by decide +kernel
theorem dX5_height_44 : decode cX5_height 44 = .ok (.ireturn, 1) := by decide +kernel
theorem dX5_many_0 : decode cX5_many 0 = .ok (.iload_n 1, 1) := by decide +kernel
theorem dX5_many_1 : decode cX5_many 1 = .ok (.invokestatic 44, 3) := by decide +kernel
theorem dX5_many_4 : decode cX5_many 4 = .ok (.aload_n 0, 1) := by decide +kernel
theorem dX5_many_5 : decode cX5_many 5 = .ok (.invokevirtual 72, 3) := by decide +kernel
theorem dX5_many_8 : decode cX5_many 8 = .ok (.aload_n 0, 1) := by decide +kernel
theorem dX5_many_9 : decode cX5_many 9 = .ok (.getfield 11, 3) := by decide +kernel
theorem dX5_many_12 : decode cX5_many 12 = .ok (.iload_n 1, 1) := by decide +kernel
theorem dX5_many_13 : decode cX5_many 13 = .ok (.aaload, 1) := by decide +kernel
theorem dX5_many_14 : decode cX5_many 14 = .ok (.getfield 79, 3) := by decide +kernel
theorem dX5_many_17 : decode cX5_many 17 = .ok (.invokevirtual 83, 3) := by decide +kernel
theorem dX5_many_20 : decode cX5_many 20 = .ok (.ireturn, 1) := by decide +kernel
theorem dX5_count_0 : decode cX5_count 0 = .ok (.iload_n 1, 1) := by decide +kernel
theorem dX5_count_1 : decode cX5_count 1 = .ok (.invokestatic 44, 3) := by decide +kernel
theorem dX5_count_4 : decode cX5_count 4 = .ok (.aload_n 0, 1) := by decide +kernel
theorem dX5_count_5 : decode cX5_count 5 = .ok (.invokevirtual 72, 3) := by decide +kernel
theorem dX5_count_8 : decode cX5_count 8 = .ok (.aload_n 0, 1) := by decide +kernel
theorem dX5_count_9 : decode cX5_count 9 = .ok (.getfield 11, 3) := by decide +kernel
theorem dX5_count_12 : decode cX5_count 12 = .ok (.iload_n 1, 1) := by decide +kernel
theorem dX5_count_13 : decode cX5_count 13 = .ok (.aaload, 1) := by decide +kernel
theorem dX5_count_14 : decode cX5_count 14 = .ok (.getfield 79, 3) := by decide +kernel
theorem dX5_count_17 : decode cX5_count 17 = .ok (.astore_n 3, 1) := by decide +kernel
theorem dX5_count_18 : decode cX5_count 18 = .ok (.iload_n 2, 1) := by decide +kernel
theorem dX5_count_19 : decode cX5_count 19 = .ok (.ifCond .lt 11, 3) := by decide +kernel
theorem dX5_count_22 : decode cX5_count 22 = .ok (.iload_n 2, 1) := by decide +kernel
theorem dX5_count_23 : decode cX5_count 23 = .ok (.aload_n 3, 1) := by decide +kernel
theorem dX5_count_24 : decode cX5_count 24 = .ok (.invokevirtual 83, 3) := by decide +kernel
theorem dX5_count_27 : decode cX5_count 27 = .ok (.if_icmp .lt 13, 3) := by decide +kernel
theorem dX5_count_30 : decode cX5_count 30 = .ok (.new 89, 3) := by decide +kernel
theorem dX5_count_33 : decode cX5_count 33 = .ok (.dup, 1) := by decide +kernel
theorem dX5_count_34 : decode cX5_count 34 = .ok (.ldc 91, 2) := by decide +kernel
theorem dX5_count_36 : decode cX5_count 36 = .ok (.invokespecial 93, 3) := by decide +kernel
theorem dX5_count_39 : decode cX5_count 39 = .ok (.athrow, 1) := by decide +kernel
theorem dX5_count_40 : decode cX5_count 40 = .ok (.aload_n 3, 1) := by decide +kernel
theorem dX5_count_41 : decode cX5_count 41 = .ok (.iload_n 2, 1) := by decide +kernel
theorem dX5_count_42 : decode cX5_count 42 = .ok (.invokevirtual 94, 3) := by decide +kernel
theorem dX5_count_45 : decode cX5_count 45 = .ok (.ireturn, 1) := by decide +kernel
theorem dX5_derive_0 : decode cX5_derive 0 = .ok (.iload_n 1, 1) := by decide +kernel
theorem dX5_derive_1 : decode cX5_derive 1 = .ok (.invokestatic 44, 3) := by decide +kernel
theorem dX5_derive_4 : decode cX5_derive 4 = .ok (.iload_n 2, 1) := by decide +kernel
theorem dX5_derive_5 : decode cX5_derive 5 = .ok (.iload_n 3, 1) := by decide +kernel
theorem dX5_derive_6 : decode cX5_derive 6 = .ok (.iload 4, 2) := by decide +kernel
theorem dX5_derive_8 : decode cX5_derive 8 = .ok (.invokestatic 68, 3) := by decide +kernel
theorem dX5_derive_11 : decode cX5_derive 11 = .ok (.istore 5, 2) := by decide +kernel
theorem dX5_derive_13 : decode cX5_derive 13 = .ok (.aload_n 0, 1) := by decide +kernel
theorem dX5_derive_14 : decode cX5_derive 14 = .ok (.invokevirtual 72, 3) := by decide +kernel
theorem dX5_derive_17 : decode cX5_derive 17 = .ok (.aload_n 0, 1) := by decide +kernel
theorem dX5_derive_18 : decode cX5_derive 18 = .ok (.getfield 11, 3) := by decide +kernel
theorem dX5_derive_21 : decode cX5_derive 21 = .ok (.iload_n 1, 1) := by decide +kernel
theorem dX5_derive_22 : decode cX5_derive 22 = .ok (.aaload, 1) := by decide +kernel
theorem dX5_derive_23 : decode cX5_derive 23 = .ok (.getfield 79, 3) := by decide +kernel
theorem dX5_derive_26 : decode cX5_derive 26 = .ok (.iload 5, 2) := by decide +kernel
theorem dX5_derive_28 : decode cX5_derive 28 = .ok (.invokevirtual 98, 3) := by decide +kernel
theorem dX5_derive_31 : decode cX5_derive 31 = .ok (.ifCond .ne 13, 3) := by decide +kernel
theorem dX5_derive_34 : decode cX5_derive 34 = .ok (.new 102, 3) := by decide +kernel
theorem dX5_derive_37 : decode cX5_derive 37 = .ok (.dup, 1) := by decide +kernel
theorem dX5_derive_38 : decode cX5_derive 38 = .ok (.ldc 104, 2) := by decide +kernel
theorem dX5_derive_40 : decode cX5_derive 40 = .ok (.invokespecial 106, 3) := by decide +kernel
theorem dX5_derive_43 : decode cX5_derive 43 = .ok (.athrow, 1) := by decide +kernel
theorem dX5_derive_44 : decode cX5_derive 44 = .ok (.aload_n 0, 1) := by decide +kernel
theorem dX5_derive_45 : decode cX5_derive 45 = .ok (.getfield 39, 3) := by decide +kernel
theorem dX5_derive_48 : decode cX5_derive 48 = .ok (.aload_n 0, 1) := by decide +kernel
theorem dX5_derive_49 : decode cX5_derive 49 = .ok (.getfield 11, 3) := by decide +kernel
theorem dX5_derive_52 : decode cX5_derive 52 = .ok (.aload_n 0, 1) := by decide +kernel
theorem dX5_derive_53 : decode cX5_derive 53 = .ok (.getfield 17, 3) := by decide +kernel
theorem dX5_derive_56 : decode cX5_derive 56 = .ok (.iload_n 1, 1) := by decide +kernel
theorem dX5_derive_57 : decode cX5_derive 57 = .ok (.iload 5, 2) := by decide +kernel
theorem dX5_derive_59 : decode cX5_derive 59 = .ok (.invokevirtual 107, 3) := by decide +kernel
theorem dX5_derive_62 : decode cX5_derive 62 = .ok (.ifCond .ne 13, 3) := by decide +kernel
theorem dX5_derive_65 : decode cX5_derive 65 = .ok (.new 111, 3) := by decide +kernel
theorem dX5_derive_68 : decode cX5_derive 68 = .ok (.dup, 1) := by decide +kernel
theorem dX5_derive_69 : decode cX5_derive 69 = .ok (.ldc 113, 2) := by decide +kernel
theorem dX5_derive_71 : decode cX5_derive 71 = .ok (.invokespecial 115, 3) := by decide +kernel
theorem dX5_derive_74 : decode cX5_derive 74 = .ok (.athrow, 1) := by decide +kernel
theorem dX5_derive_75 : decode cX5_derive 75 = .ok (.aload_n 0, 1) := by decide +kernel
theorem dX5_derive_76 : decode cX5_derive 76 = .ok (.aload_n 0, 1) := by decide +kernel
theorem dX5_derive_77 : decode cX5_derive 77 = .ok (.getfield 39, 3) := by decide +kernel
theorem dX5_derive_80 : decode cX5_derive 80 = .ok (.getfield 116, 3) := by decide +kernel
theorem dX5_derive_83 : decode cX5_derive 83 = .ok (.putfield 33, 3) := by decide +kernel
theorem dX5_derive_86 : decode cX5_derive 86 = .ok (.aload_n 0, 1) := by decide +kernel
theorem dX5_derive_87 : decode cX5_derive 87 = .ok (.getfield 39, 3) := by decide +kernel
theorem dX5_derive_90 : decode cX5_derive 90 = .ok (.getfield 118, 3) := by decide +kernel
theorem dX5_derive_93 : decode cX5_derive 93 = .ok (.iconst 0, 1) := by decide +kernel
theorem dX5_derive_94 : decode cX5_derive 94 = .ok (.aload_n 0, 1) := by decide +kernel
theorem dX5_derive_95 : decode cX5_derive 95 = .ok (.getfield 29, 3) := by decide +kernel
theorem dX5_derive_98 : decode cX5_derive 98 = .ok (.iconst 0, 1) := by decide +kernel
theorem dX5_derive_99 : decode cX5_derive 99 = .ok (.aload_n 0, 1) := by decide +kernel
theorem dX5_derive_100 : decode cX5_derive 100 = .ok (.getfield 33, 3) := by decide +kernel
theorem dX5_derive_103 : decode cX5_derive 103 = .ok (.invokestatic 119, 3) := by decide +kernel
theorem dX5_derive_106 : decode cX5_derive 106 = .ok (.iconst 0, 1) := by decide +kernel
theorem dX5_derive_107 : decode cX5_derive 107 = .ok (.istore 6, 2) := by decide +kernel
theorem dX5_derive_109 : decode cX5_derive 109 = .ok (.iload 6, 2) := by decide +kernel
theorem dX5_derive_111 : decode cX5_derive 111 = .ok (.aload_n 0, 1) := by decide +kernel
theorem dX5_derive_112 : decode cX5_derive 112 = .ok (.getfield 21, 3) := by decide +kernel
theorem dX5_derive_115 : decode cX5_derive 115 = .ok (.if_icmp .ge 29, 3) := by decide +kernel
theorem dX5_derive_118 : decode cX5_derive 118 = .ok (.aload_n 0, 1) := by decide +kernel
theorem dX5_derive_119 : decode cX5_derive 119 = .ok (.getfield 17, 3) := by decide +kernel
theorem dX5_derive_122 : decode cX5_derive 122 = .ok (.iload 6, 2) := by decide +kernel
theorem dX5_derive_124 : decode cX5_derive 124 = .ok (.aaload, 1) := by decide +kernel
theorem dX5_derive_125 : decode cX5_derive 125 = .ok (.aload_n 0, 1) := by decide +kernel
theorem dX5_derive_126 : decode cX5_derive 126 = .ok (.getfield 39, 3) := by decide +kernel
theorem dX5_derive_129 : decode cX5_derive 129 = .ok (.getfield 125, 3) := by decide +kernel
theorem dX5_derive_132 : decode cX5_derive 132 = .ok (.iload 6, 2) := by decide +kernel
theorem dX5_derive_134 : decode cX5_derive 134 = .ok (.iaload, 1) := by decide +kernel
theorem dX5_derive_135 : decode cX5_derive 135 = .ok (.putfield 128, 3) := by decide +kernel
theorem dX5_derive_138 : decode cX5_derive 138 = .ok (.iinc 6 1, 3) := by decide +kernel
theorem dX5_derive_141 : decode cX5_derive 141 = .ok (.goto (-32), 3) := by decide +kernel
theorem dX5_derive_144 : decode cX5_derive 144 = .ok (.aload_n 0, 1) := by decide +kernel
theorem dX5_derive_145 : decode cX5_derive 145 = .ok (.getfield 33, 3) := by decide +kernel
theorem dX5_derive_148 : decode cX5_derive 148 = .ok (.ireturn, 1) := by decide +kernel
theorem dX5_step_0 : decode cX5_step 0 = .ok (.iload_n 1, 1) := by decide +kernel
theorem dX5_step_1 : decode cX5_step 1 = .ok (.ifCond .lt 11, 3) := by decide +kernel
theorem dX5_step_4 : decode cX5_step 4 = .ok (.iload_n 1, 1) := by decide +kernel
theorem dX5_step_5 : decode cX5_step 5 = .ok (.aload_n 0, 1) := by decide +kernel
theorem dX5_step_6 : decode cX5_step 6 = .ok (.getfield 33, 3) := by decide +kernel
theorem dX5_step_9 : decode cX5_step 9 = .ok (.if_icmp .lt 13, 3) := by decide +kernel
theorem dX5_step_12 : decode cX5_step 12 = .ok (.new 89, 3) := by decide +kernel
theorem dX5_step_15 : decode cX5_step 15 = .ok (.dup, 1) := by decide +kernel
theorem dX5_step_16 : decode cX5_step 16 = .ok (.ldc 130, 2) := by decide +kernel
theorem dX5_step_18 : decode cX5_step 18 = .ok (.invokespecial 93, 3) := by decide +kernel
theorem dX5_step_21 : decode cX5_step 21 = .ok (.athrow, 1) := by decide +kernel
theorem dX5_step_22 : decode cX5_step 22 = .ok (.aload_n 0, 1) := by decide +kernel
theorem dX5_step_23 : decode cX5_step 23 = .ok (.getfield 29, 3) := by decide +kernel
theorem dX5_step_26 : decode cX5_step 26 = .ok (.iload_n 1, 1) := by decide +kernel
theorem dX5_step_27 : decode cX5_step 27 = .ok (.iaload, 1) := by decide +kernel
theorem dX5_step_28 : decode cX5_step 28 = .ok (.ireturn, 1) := by decide +kernel
theorem dX5_use_0 : decode cX5_use 0 = .ok (.iload_n 1, 1) := by decide +kernel
theorem dX5_use_1 : decode cX5_use 1 = .ok (.ifCond .lt 11, 3) := by decide +kernel
theorem dX5_use_4 : decode cX5_use 4 = .ok (.iload_n 1, 1) := by decide +kernel
theorem dX5_use_5 : decode cX5_use 5 = .ok (.aload_n 0, 1) := by decide +kernel
theorem dX5_use_6 : decode cX5_use 6 = .ok (.getfield 21, 3) := by decide +kernel
theorem dX5_use_9 : decode cX5_use 9 = .ok (.if_icmp .lt 13, 3) := by decide +kernel
theorem dX5_use_12 : decode cX5_use 12 = .ok (.new 132, 3) := by decide +kernel
theorem dX5_use_15 : decode cX5_use 15 = .ok (.dup, 1) := by decide +kernel
theorem dX5_use_16 : decode cX5_use 16 = .ok (.ldc 134, 2) := by decide +kernel
theorem dX5_use_18 : decode cX5_use 18 = .ok (.invokespecial 136, 3) := by decide +kernel
theorem dX5_use_21 : decode cX5_use 21 = .ok (.athrow, 1) := by decide +kernel
theorem dX5_use_22 : decode cX5_use 22 = .ok (.iload_n 2, 1) := by decide +kernel
theorem dX5_use_23 : decode cX5_use 23 = .ok (.ifCond .lt 9, 3) := by decide +kernel
theorem dX5_use_26 : decode cX5_use 26 = .ok (.iload_n 2, 1) := by decide +kernel
theorem dX5_use_27 : decode cX5_use 27 = .ok (.bipush 50, 2) := by decide +kernel
theorem dX5_use_29 : decode cX5_use 29 = .ok (.if_icmp .le 13, 3) := by decide +kernel
theorem dX5_use_32 : decode cX5_use 32 = .ok (.new 132, 3) := by decide +kernel
theorem dX5_use_35 : decode cX5_use 35 = .ok (.dup, 1) := by decide +kernel
theorem dX5_use_36 : decode cX5_use 36 = .ok (.ldc 137, 2) := by decide +kernel
theorem dX5_use_38 : decode cX5_use 38 = .ok (.invokespecial 136, 3) := by decide +kernel
theorem dX5_use_41 : decode cX5_use 41 = .ok (.athrow, 1) := by decide +kernel
theorem dX5_use_42 : decode cX5_use 42 = .ok (.aload_n 0, 1) := by decide +kernel
theorem dX5_use_43 : decode cX5_use 43 = .ok (.getfield 17, 3) := by decide +kernel
theorem dX5_use_46 : decode cX5_use 46 = .ok (.iload_n 1, 1) := by decide +kernel
theorem dX5_use_47 : decode cX5_use 47 = .ok (.aaload, 1) := by decide +kernel
theorem dX5_use_48 : decode cX5_use 48 = .ok (.getfield 128, 3) := by decide +kernel
theorem dX5_use_51 : decode cX5_use 51 = .ok (.istore_n 3, 1) := by decide +kernel
theorem dX5_use_52 : decode cX5_use 52 = .ok (.aload_n 0, 1) := by decide +kernel
theorem dX5_use_53 : decode cX5_use 53 = .ok (.getfield 17, 3) := by decide +kernel
theorem dX5_use_56 : decode cX5_use 56 = .ok (.iload_n 1, 1) := by decide +kernel
theorem dX5_use_57 : decode cX5_use 57 = .ok (.aaload, 1) := by decide +kernel
theorem dX5_use_58 : decode cX5_use 58 = .ok (.iload_n 2, 1) := by decide +kernel
theorem dX5_use_59 : decode cX5_use 59 = .ok (.putfield 128, 3) := by decide +kernel
theorem dX5_use_62 : decode cX5_use 62 = .ok (.iload_n 3, 1) := by decide +kernel
theorem dX5_use_63 : decode cX5_use 63 = .ok (.ireturn, 1) := by decide +kernel
theorem dX5_fit_0 : decode cX5_fit 0 = .ok (.iload_n 1, 1) := by decide +kernel
theorem dX5_fit_1 : decode cX5_fit 1 = .ok (.invokestatic 44, 3) := by decide +kernel
theorem dX5_fit_4 : decode cX5_fit 4 = .ok (.iconst 0, 1) := by decide +kernel
theorem dX5_fit_5 : decode cX5_fit 5 = .ok (.istore_n 2, 1) := by decide +kernel
theorem dX5_fit_6 : decode cX5_fit 6 = .ok (.iload_n 2, 1) := by decide +kernel
theorem dX5_fit_7 : decode cX5_fit 7 = .ok (.iconst 5, 1) := by decide +kernel
theorem dX5_fit_8 : decode cX5_fit 8 = .ok (.if_icmp .ge 39, 3) := by decide +kernel
theorem dX5_fit_11 : decode cX5_fit 11 = .ok (.aload_n 0, 1) := by decide +kernel
theorem dX5_fit_12 : decode cX5_fit 12 = .ok (.iload_n 2, 1) := by decide +kernel
theorem dX5_fit_13 : decode cX5_fit 13 = .ok (.invokevirtual 139, 3) := by decide +kernel
theorem dX5_fit_16 : decode cX5_fit 16 = .ok (.iload_n 2, 1) := by decide +kernel
theorem dX5_fit_17 : decode cX5_fit 17 = .ok (.iload_n 1, 1) := by decide +kernel
theorem dX5_fit_18 : decode cX5_fit 18 = .ok (.if_icmp .ne 7, 3) := by decide +kernel
theorem dX5_fit_21 : decode cX5_fit 21 = .ok (.iconst 1, 1) := by decide +kernel
theorem dX5_fit_22 : decode cX5_fit 22 = .ok (.goto 4, 3) := by decide +kernel
theorem dX5_fit_25 : decode cX5_fit 25 = .ok (.iconst 0, 1) := by decide +kernel
theorem dX5_fit_26 : decode cX5_fit 26 = .ok (.iadd, 1) := by decide +kernel
theorem dX5_fit_27 : decode cX5_fit 27 = .ok (.istore_n 3, 1) := by decide +kernel
theorem dX5_fit_28 : decode cX5_fit 28 = .ok (.aload_n 0, 1) := by decide +kernel
theorem dX5_fit_29 : decode cX5_fit 29 = .ok (.iload_n 2, 1) := by decide +kernel
theorem dX5_fit_30 : decode cX5_fit 30 = .ok (.invokevirtual 142, 3) := by decide +kernel
theorem dX5_fit_33 : decode cX5_fit 33 = .ok (.iload_n 3, 1) := by decide +kernel
theorem dX5_fit_34 : decode cX5_fit 34 = .ok (.if_icmp .eq 7, 3) := by decide +kernel
theorem dX5_fit_37 : decode cX5_fit 37 = .ok (.iconst 1, 1) := by decide +kernel
theorem dX5_fit_38 : decode cX5_fit 38 = .ok (.iload_n 2, 1) := by decide +kernel
theorem dX5_fit_39 : decode cX5_fit 39 = .ok (.iadd, 1) := by decide +kernel
theorem dX5_fit_40 : decode cX5_fit 40 = .ok (.ireturn, 1) := by decide +kernel
theorem dX5_fit_41 : decode cX5_fit 41 = .ok (.iinc 2 1, 3) := by decide +kernel
theorem dX5_fit_44 : decode cX5_fit 44 = .ok (.goto (-38), 3) := by decide +kernel
theorem dX5_fit_47 : decode cX5_fit 47 = .ok (.aload_n 0, 1) := by decide +kernel
theorem dX5_fit_48 : decode cX5_fit 48 = .ok (.iload_n 1, 1) := by decide +kernel
theorem dX5_fit_49 : decode cX5_fit 49 = .ok (.invokevirtual 145, 3) := by decide +kernel
theorem dX5_fit_52 : decode cX5_fit 52 = .ok (.istore_n 2, 1) := by decide +kernel
theorem dX5_fit_53 : decode cX5_fit 53 = .ok (.iconst 0, 1) := by decide +kernel
theorem dX5_fit_54 : decode cX5_fit 54 = .ok (.istore_n 3, 1) := by decide +kernel
theorem dX5_fit_55 : decode cX5_fit 55 = .ok (.iload_n 3, 1) := by decide +kernel
theorem dX5_fit_56 : decode cX5_fit 56 = .ok (.iconst 5, 1) := by decide +kernel
theorem dX5_fit_57 : decode cX5_fit 57 = .ok (.if_icmp .ge 30, 3) := by decide +kernel
theorem dX5_fit_60 : decode cX5_fit 60 = .ok (.aload_n 0, 1) := by decide +kernel
theorem dX5_fit_61 : decode cX5_fit 61 = .ok (.iload_n 3, 1) := by decide +kernel
theorem dX5_fit_62 : decode cX5_fit 62 = .ok (.invokevirtual 142, 3) := by decide +kernel
theorem dX5_fit_65 : decode cX5_fit 65 = .ok (.ifCond .le 16, 3) := by decide +kernel
theorem dX5_fit_68 : decode cX5_fit 68 = .ok (.iload_n 2, 1) := by decide +kernel
theorem dX5_fit_69 : decode cX5_fit 69 = .ok (.iload_n 3, 1) := by decide +kernel
theorem dX5_fit_70 : decode cX5_fit 70 = .ok (.ishr, 1) := by decide +kernel
theorem dX5_fit_71 : decode cX5_fit 71 = .ok (.iconst 1, 1) := by decide +kernel
theorem dX5_fit_72 : decode cX5_fit 72 = .ok (.iand, 1) := by decide +kernel
theorem dX5_fit_73 : decode cX5_fit 73 = .ok (.ifCond .ne 8, 3) := by decide +kernel
theorem dX5_fit_76 : decode cX5_fit 76 = .ok (.bipush 11, 2) := by decide +kernel
theorem dX5_fit_78 : decode cX5_fit 78 = .ok (.iload_n 3, 1) := by decide +kernel
theorem dX5_fit_79 : decode cX5_fit 79 = .ok (.iadd, 1) := by decide +kernel
theorem dX5_fit_80 : decode cX5_fit 80 = .ok (.ireturn, 1) := by decide +kernel
theorem dX5_fit_81 : decode cX5_fit 81 = .ok (.iinc 3 1, 3) := by decide +kernel
theorem dX5_fit_84 : decode cX5_fit 84 = .ok (.goto (-29), 3) := by decide +kernel
theorem dX5_fit_87 : decode cX5_fit 87 = .ok (.iconst 0, 1) := by decide +kernel
theorem dX5_fit_88 : decode cX5_fit 88 = .ok (.ireturn, 1) := by decide +kernel
theorem dX5_letters_0 : decode cX5_letters 0 = .ok (.iload_n 1, 1) := by decide +kernel
theorem dX5_letters_1 : decode cX5_letters 1 = .ok (.ifCond .lt 8, 3) := by decide +kernel
theorem dX5_letters_4 : decode cX5_letters 4 = .ok (.iload_n 1, 1) := by decide +kernel
theorem dX5_letters_5 : decode cX5_letters 5 = .ok (.iconst 3, 1) := by decide +kernel
theorem dX5_letters_6 : decode cX5_letters 6 = .ok (.if_icmp .lt 13, 3) := by decide +kernel
theorem dX5_letters_9 : decode cX5_letters 9 = .ok (.new 132, 3) := by decide +kernel
theorem dX5_letters_12 : decode cX5_letters 12 = .ok (.dup, 1) := by decide +kernel
theorem dX5_letters_13 : decode cX5_letters 13 = .ok (.ldc 148, 2) := by decide +kernel
theorem dX5_letters_15 : decode cX5_letters 15 = .ok (.invokespecial 136, 3) := by decide +kernel
theorem dX5_letters_18 : decode cX5_letters 18 = .ok (.athrow, 1) := by decide +kernel
theorem dX5_letters_19 : decode cX5_letters 19 = .ok (.iconst 0, 1) := by decide +kernel
theorem dX5_letters_20 : decode cX5_letters 20 = .ok (.istore_n 2, 1) := by decide +kernel
theorem dX5_letters_21 : decode cX5_letters 21 = .ok (.iconst 0, 1) := by decide +kernel
theorem dX5_letters_22 : decode cX5_letters 22 = .ok (.istore_n 3, 1) := by decide +kernel
theorem dX5_letters_23 : decode cX5_letters 23 = .ok (.iload_n 3, 1) := by decide +kernel
theorem dX5_letters_24 : decode cX5_letters 24 = .ok (.aload_n 0, 1) := by decide +kernel
theorem dX5_letters_25 : decode cX5_letters 25 = .ok (.getfield 21, 3) := by decide +kernel
theorem dX5_letters_28 : decode cX5_letters 28 = .ok (.if_icmp .ge 32, 3) := by decide +kernel
theorem dX5_letters_31 : decode cX5_letters 31 = .ok (.iload_n 2, 1) := by decide +kernel
theorem dX5_letters_32 : decode cX5_letters 32 = .ok (.aload_n 0, 1) := by decide +kernel
theorem dX5_letters_33 : decode cX5_letters 33 = .ok (.getfield 17, 3) := by decide +kernel
theorem dX5_letters_36 : decode cX5_letters 36 = .ok (.iload_n 3, 1) := by decide +kernel
theorem dX5_letters_37 : decode cX5_letters 37 = .ok (.aaload, 1) := by decide +kernel
theorem dX5_letters_38 : decode cX5_letters 38 = .ok (.getfield 128, 3) := by decide +kernel
theorem dX5_letters_41 : decode cX5_letters 41 = .ok (.aload_n 0, 1) := by decide +kernel
theorem dX5_letters_42 : decode cX5_letters 42 = .ok (.getfield 17, 3) := by decide +kernel
theorem dX5_letters_45 : decode cX5_letters 45 = .ok (.iload_n 3, 1) := by decide +kernel
theorem dX5_letters_46 : decode cX5_letters 46 = .ok (.aaload, 1) := by decide +kernel
theorem dX5_letters_47 : decode cX5_letters 47 = .ok (.iload_n 1, 1) := by decide +kernel
theorem dX5_letters_48 : decode cX5_letters 48 = .ok (.invokevirtual 150, 3) := by decide +kernel
theorem dX5_letters_51 : decode cX5_letters 51 = .ok (.imul, 1) := by decide +kernel
theorem dX5_letters_52 : decode cX5_letters 52 = .ok (.iadd, 1) := by decide +kernel
theorem dX5_letters_53 : decode cX5_letters 53 = .ok (.istore_n 2, 1) := by decide +kernel
theorem dX5_letters_54 : decode cX5_letters 54 = .ok (.iinc 3 1, 3) := by decide +kernel
theorem dX5_letters_57 : decode cX5_letters 57 = .ok (.goto (-34), 3) := by decide +kernel
theorem dX5_letters_60 : decode cX5_letters 60 = .ok (.iload_n 2, 1) := by decide +kernel
theorem dX5_letters_61 : decode cX5_letters 61 = .ok (.ireturn, 1) := by decide +kernel
theorem dX5_requireNonterminal_0 : decode cX5_requireNonterminal 0 = .ok (.iload_n 0, 1) := by decide +kernel
theorem dX5_requireNonterminal_1 : decode cX5_requireNonterminal 1 = .ok (.ifCond .lt 8, 3) := by decide +kernel
theorem dX5_requireNonterminal_4 : decode cX5_requireNonterminal 4 = .ok (.iload_n 0, 1) := by decide +kernel
theorem dX5_requireNonterminal_5 : decode cX5_requireNonterminal 5 = .ok (.iconst 5, 1) := by decide +kernel
theorem dX5_requireNonterminal_6 : decode cX5_requireNonterminal 6 = .ok (.if_icmp .lt 13, 3) := by decide +kernel
theorem dX5_requireNonterminal_9 : decode cX5_requireNonterminal 9 = .ok (.new 132, 3) := by decide +kernel
theorem dX5_requireNonterminal_12 : decode cX5_requireNonterminal 12 = .ok (.dup, 1) := by decide +kernel
theorem dX5_requireNonterminal_13 : decode cX5_requireNonterminal 13 = .ok (.ldc 153, 2) := by decide +kernel
theorem dX5_requireNonterminal_15 : decode cX5_requireNonterminal 15 = .ok (.invokespecial 136, 3) := by decide +kernel
theorem dX5_requireNonterminal_18 : decode cX5_requireNonterminal 18 = .ok (.athrow, 1) := by decide +kernel
theorem dX5_requireNonterminal_19 : decode cX5_requireNonterminal 19 = .ok (.return_, 1) := by decide +kernel
theorem dX5_requireSymbol_0 : decode cX5_requireSymbol 0 = .ok (.iload_n 0, 1) := by decide +kernel
theorem dX5_requireSymbol_1 : decode cX5_requireSymbol 1 = .ok (.iconst (-1), 1) := by decide +kernel
theorem dX5_requireSymbol_2 : decode cX5_requireSymbol 2 = .ok (.if_icmp .lt 9, 3) := by decide +kernel
theorem dX5_requireSymbol_5 : decode cX5_requireSymbol 5 = .ok (.iload_n 0, 1) := by decide +kernel
theorem dX5_requireSymbol_6 : decode cX5_requireSymbol 6 = .ok (.bipush 7, 2) := by decide +kernel
theorem dX5_requireSymbol_8 : decode cX5_requireSymbol 8 = .ok (.if_icmp .le 13, 3) := by decide +kernel
theorem dX5_requireSymbol_11 : decode cX5_requireSymbol 11 = .ok (.new 132, 3) := by decide +kernel
theorem dX5_requireSymbol_14 : decode cX5_requireSymbol 14 = .ok (.dup, 1) := by decide +kernel
theorem dX5_requireSymbol_15 : decode cX5_requireSymbol 15 = .ok (.ldc 155, 2) := by decide +kernel
theorem dX5_requireSymbol_17 : decode cX5_requireSymbol 17 = .ok (.invokespecial 136, 3) := by decide +kernel
theorem dX5_requireSymbol_20 : decode cX5_requireSymbol 20 = .ok (.athrow, 1) := by decide +kernel
theorem dX5_requireSymbol_21 : decode cX5_requireSymbol 21 = .ok (.return_, 1) := by decide +kernel
theorem dX5_requireNumber_0 : decode cX5_requireNumber 0 = .ok (.iload_n 0, 1) := by decide +kernel
theorem dX5_requireNumber_1 : decode cX5_requireNumber 1 = .ok (.ifCond .lt 9, 3) := by decide +kernel
theorem dX5_requireNumber_4 : decode cX5_requireNumber 4 = .ok (.iload_n 0, 1) := by decide +kernel
theorem dX5_requireNumber_5 : decode cX5_requireNumber 5 = .ok (.bipush 7, 2) := by decide +kernel
theorem dX5_requireNumber_7 : decode cX5_requireNumber 7 = .ok (.if_icmp .le 13, 3) := by decide +kernel
theorem dX5_requireNumber_10 : decode cX5_requireNumber 10 = .ok (.new 132, 3) := by decide +kernel
theorem dX5_requireNumber_13 : decode cX5_requireNumber 13 = .ok (.dup, 1) := by decide +kernel
theorem dX5_requireNumber_14 : decode cX5_requireNumber 14 = .ok (.ldc 157, 2) := by decide +kernel
theorem dX5_requireNumber_16 : decode cX5_requireNumber 16 = .ok (.invokespecial 136, 3) := by decide +kernel
theorem dX5_requireNumber_19 : decode cX5_requireNumber 19 = .ok (.athrow, 1) := by decide +kernel
theorem dX5_requireNumber_20 : decode cX5_requireNumber 20 = .ok (.return_, 1) := by decide +kernel
theorem dX5_countOf_0 : decode cX5_countOf 0 = .ok (.iload_n 0, 1) := by decide +kernel
theorem dX5_countOf_1 : decode cX5_countOf 1 = .ok (.invokestatic 159, 3) := by decide +kernel
theorem dX5_countOf_4 : decode cX5_countOf 4 = .ok (.iload_n 1, 1) := by decide +kernel
theorem dX5_countOf_5 : decode cX5_countOf 5 = .ok (.invokestatic 159, 3) := by decide +kernel
theorem dX5_countOf_8 : decode cX5_countOf 8 = .ok (.iload_n 2, 1) := by decide +kernel
theorem dX5_countOf_9 : decode cX5_countOf 9 = .ok (.invokestatic 159, 3) := by decide +kernel
theorem dX5_countOf_12 : decode cX5_countOf 12 = .ok (.iload_n 0, 1) := by decide +kernel
theorem dX5_countOf_13 : decode cX5_countOf 13 = .ok (.bipush 8, 2) := by decide +kernel
theorem dX5_countOf_15 : decode cX5_countOf 15 = .ok (.iload_n 1, 1) := by decide +kernel
theorem dX5_countOf_16 : decode cX5_countOf 16 = .ok (.imul, 1) := by decide +kernel
theorem dX5_countOf_17 : decode cX5_countOf 17 = .ok (.iadd, 1) := by decide +kernel
theorem dX5_countOf_18 : decode cX5_countOf 18 = .ok (.bipush 64, 2) := by decide +kernel
theorem dX5_countOf_20 : decode cX5_countOf 20 = .ok (.iload_n 2, 1) := by decide +kernel
theorem dX5_countOf_21 : decode cX5_countOf 21 = .ok (.imul, 1) := by decide +kernel
theorem dX5_countOf_22 : decode cX5_countOf 22 = .ok (.iadd, 1) := by decide +kernel
theorem dX5_countOf_23 : decode cX5_countOf 23 = .ok (.ireturn, 1) := by decide +kernel
theorem dX5_rulesChanged_0 : decode cX5_rulesChanged 0 = .ok (.aload_n 0, 1) := by decide +kernel
theorem dX5_rulesChanged_1 : decode cX5_rulesChanged 1 = .ok (.iconst 1, 1) := by decide +kernel
theorem dX5_rulesChanged_2 : decode cX5_rulesChanged 2 = .ok (.putfield 25, 3) := by decide +kernel
theorem dX5_rulesChanged_5 : decode cX5_rulesChanged 5 = .ok (.aload_n 0, 1) := by decide +kernel
theorem dX5_rulesChanged_6 : decode cX5_rulesChanged 6 = .ok (.iconst 0, 1) := by decide +kernel
theorem dX5_rulesChanged_7 : decode cX5_rulesChanged 7 = .ok (.putfield 33, 3) := by decide +kernel
theorem dX5_rulesChanged_10 : decode cX5_rulesChanged 10 = .ok (.return_, 1) := by decide +kernel
theorem dX5_workOut_0 : decode cX5_workOut 0 = .ok (.aload_n 0, 1) := by decide +kernel
theorem dX5_workOut_1 : decode cX5_workOut 1 = .ok (.getfield 25, 3) := by decide +kernel
theorem dX5_workOut_4 : decode cX5_workOut 4 = .ok (.ifCond .ne 4, 3) := by decide +kernel
theorem dX5_workOut_7 : decode cX5_workOut 7 = .ok (.return_, 1) := by decide +kernel
theorem dX5_workOut_8 : decode cX5_workOut 8 = .ok (.iconst 0, 1) := by decide +kernel
theorem dX5_workOut_9 : decode cX5_workOut 9 = .ok (.istore_n 1, 1) := by decide +kernel
theorem dX5_workOut_10 : decode cX5_workOut 10 = .ok (.iload_n 1, 1) := by decide +kernel
theorem dX5_workOut_11 : decode cX5_workOut 11 = .ok (.iconst 5, 1) := by decide +kernel
theorem dX5_workOut_12 : decode cX5_workOut 12 = .ok (.if_icmp .ge 18, 3) := by decide +kernel
theorem dX5_workOut_15 : decode cX5_workOut 15 = .ok (.aload_n 0, 1) := by decide +kernel
theorem dX5_workOut_16 : decode cX5_workOut 16 = .ok (.getfield 11, 3) := by decide +kernel
theorem dX5_workOut_19 : decode cX5_workOut 19 = .ok (.iload_n 1, 1) := by decide +kernel
theorem dX5_workOut_20 : decode cX5_workOut 20 = .ok (.aaload, 1) := by decide +kernel
theorem dX5_workOut_21 : decode cX5_workOut 21 = .ok (.invokevirtual 162, 3) := by decide +kernel
theorem dX5_workOut_24 : decode cX5_workOut 24 = .ok (.iinc 1 1, 3) := by decide +kernel
theorem dX5_workOut_27 : decode cX5_workOut 27 = .ok (.goto (-17), 3) := by decide +kernel
theorem dX5_workOut_30 : decode cX5_workOut 30 = .ok (.iconst 0, 1) := by decide +kernel
theorem dX5_workOut_31 : decode cX5_workOut 31 = .ok (.istore_n 1, 1) := by decide +kernel
theorem dX5_workOut_32 : decode cX5_workOut 32 = .ok (.iload_n 1, 1) := by decide +kernel
theorem dX5_workOut_33 : decode cX5_workOut 33 = .ok (.aload_n 0, 1) := by decide +kernel
theorem dX5_workOut_34 : decode cX5_workOut 34 = .ok (.getfield 21, 3) := by decide +kernel
theorem dX5_workOut_37 : decode cX5_workOut 37 = .ok (.if_icmp .ge 18, 3) := by decide +kernel
theorem dX5_workOut_40 : decode cX5_workOut 40 = .ok (.aload_n 0, 1) := by decide +kernel
theorem dX5_workOut_41 : decode cX5_workOut 41 = .ok (.getfield 17, 3) := by decide +kernel
theorem dX5_workOut_44 : decode cX5_workOut 44 = .ok (.iload_n 1, 1) := by decide +kernel
theorem dX5_workOut_45 : decode cX5_workOut 45 = .ok (.aaload, 1) := by decide +kernel
theorem dX5_workOut_46 : decode cX5_workOut 46 = .ok (.invokevirtual 165, 3) := by decide +kernel
theorem dX5_workOut_49 : decode cX5_workOut 49 = .ok (.iinc 1 1, 3) := by decide +kernel
theorem dX5_workOut_52 : decode cX5_workOut 52 = .ok (.goto (-20), 3) := by decide +kernel
theorem dX5_workOut_55 : decode cX5_workOut 55 = .ok (.iconst 1, 1) := by decide +kernel
theorem dX5_workOut_56 : decode cX5_workOut 56 = .ok (.istore_n 1, 1) := by decide +kernel
theorem dX5_workOut_57 : decode cX5_workOut 57 = .ok (.iconst 1, 1) := by decide +kernel
theorem dX5_workOut_58 : decode cX5_workOut 58 = .ok (.istore_n 2, 1) := by decide +kernel
theorem dX5_workOut_59 : decode cX5_workOut 59 = .ok (.iload_n 2, 1) := by decide +kernel
theorem dX5_workOut_60 : decode cX5_workOut 60 = .ok (.sipush 2561, 3) := by decide +kernel
theorem dX5_workOut_63 : decode cX5_workOut 63 = .ok (.if_icmp .gt 19, 3) := by decide +kernel
theorem dX5_workOut_66 : decode cX5_workOut 66 = .ok (.iload_n 1, 1) := by decide +kernel
theorem dX5_workOut_67 : decode cX5_workOut 67 = .ok (.ifCond .eq 15, 3) := by decide +kernel
theorem dX5_workOut_70 : decode cX5_workOut 70 = .ok (.aload_n 0, 1) := by decide +kernel
theorem dX5_workOut_71 : decode cX5_workOut 71 = .ok (.iload_n 2, 1) := by decide +kernel
theorem dX5_workOut_72 : decode cX5_workOut 72 = .ok (.invokevirtual 166, 3) := by decide +kernel
theorem dX5_workOut_75 : decode cX5_workOut 75 = .ok (.istore_n 1, 1) := by decide +kernel
theorem dX5_workOut_76 : decode cX5_workOut 76 = .ok (.iinc 2 1, 3) := by decide +kernel
theorem dX5_workOut_79 : decode cX5_workOut 79 = .ok (.goto (-20), 3) := by decide +kernel
theorem dX5_workOut_82 : decode cX5_workOut 82 = .ok (.aload_n 0, 1) := by decide +kernel
theorem dX5_workOut_83 : decode cX5_workOut 83 = .ok (.iconst 0, 1) := by decide +kernel
theorem dX5_workOut_84 : decode cX5_workOut 84 = .ok (.putfield 25, 3) := by decide +kernel
theorem dX5_workOut_87 : decode cX5_workOut 87 = .ok (.return_, 1) := by decide +kernel
theorem dX5_runRound_0 : decode cX5_runRound 0 = .ok (.iconst 0, 1) := by decide +kernel
theorem dX5_runRound_1 : decode cX5_runRound 1 = .ok (.istore_n 2, 1) := by decide +kernel
theorem dX5_runRound_2 : decode cX5_runRound 2 = .ok (.iload_n 2, 1) := by decide +kernel
theorem dX5_runRound_3 : decode cX5_runRound 3 = .ok (.aload_n 0, 1) := by decide +kernel
theorem dX5_runRound_4 : decode cX5_runRound 4 = .ok (.getfield 21, 3) := by decide +kernel
theorem dX5_runRound_7 : decode cX5_runRound 7 = .ok (.if_icmp .ge 43, 3) := by decide +kernel
theorem dX5_runRound_10 : decode cX5_runRound 10 = .ok (.aload_n 0, 1) := by decide +kernel
theorem dX5_runRound_11 : decode cX5_runRound 11 = .ok (.getfield 17, 3) := by decide +kernel
theorem dX5_runRound_14 : decode cX5_runRound 14 = .ok (.iload_n 2, 1) := by decide +kernel
theorem dX5_runRound_15 : decode cX5_runRound 15 = .ok (.aaload, 1) := by decide +kernel
theorem dX5_runRound_16 : decode cX5_runRound 16 = .ok (.astore_n 3, 1) := by decide +kernel
theorem dX5_runRound_17 : decode cX5_runRound 17 = .ok (.aload_n 3, 1) := by decide +kernel
theorem dX5_runRound_18 : decode cX5_runRound 18 = .ok (.aload_n 0, 1) := by decide +kernel
theorem dX5_runRound_19 : decode cX5_runRound 19 = .ok (.getfield 11, 3) := by decide +kernel
theorem dX5_runRound_22 : decode cX5_runRound 22 = .ok (.iload_n 1, 1) := by decide +kernel
theorem dX5_runRound_23 : decode cX5_runRound 23 = .ok (.invokevirtual 169, 3) := by decide +kernel
theorem dX5_runRound_26 : decode cX5_runRound 26 = .ok (.aload_n 0, 1) := by decide +kernel
theorem dX5_runRound_27 : decode cX5_runRound 27 = .ok (.getfield 11, 3) := by decide +kernel
theorem dX5_runRound_30 : decode cX5_runRound 30 = .ok (.aload_n 3, 1) := by decide +kernel
theorem dX5_runRound_31 : decode cX5_runRound 31 = .ok (.getfield 173, 3) := by decide +kernel
theorem dX5_runRound_34 : decode cX5_runRound 34 = .ok (.aaload, 1) := by decide +kernel
theorem dX5_runRound_35 : decode cX5_runRound 35 = .ok (.aload_n 3, 1) := by decide +kernel
theorem dX5_runRound_36 : decode cX5_runRound 36 = .ok (.invokevirtual 176, 3) := by decide +kernel
theorem dX5_runRound_39 : decode cX5_runRound 39 = .ok (.iload_n 2, 1) := by decide +kernel
theorem dX5_runRound_40 : decode cX5_runRound 40 = .ok (.iload_n 1, 1) := by decide +kernel
theorem dX5_runRound_41 : decode cX5_runRound 41 = .ok (.invokevirtual 180, 3) := by decide +kernel
theorem dX5_runRound_44 : decode cX5_runRound 44 = .ok (.iinc 2 1, 3) := by decide +kernel
theorem dX5_runRound_47 : decode cX5_runRound 47 = .ok (.goto (-45), 3) := by decide +kernel
theorem dX5_runRound_50 : decode cX5_runRound 50 = .ok (.iconst 0, 1) := by decide +kernel
theorem dX5_runRound_51 : decode cX5_runRound 51 = .ok (.istore_n 2, 1) := by decide +kernel
theorem dX5_runRound_52 : decode cX5_runRound 52 = .ok (.iconst 0, 1) := by decide +kernel
theorem dX5_runRound_53 : decode cX5_runRound 53 = .ok (.istore_n 3, 1) := by decide +kernel
theorem dX5_runRound_54 : decode cX5_runRound 54 = .ok (.iload_n 3, 1) := by decide +kernel
theorem dX5_runRound_55 : decode cX5_runRound 55 = .ok (.iconst 5, 1) := by decide +kernel
theorem dX5_runRound_56 : decode cX5_runRound 56 = .ok (.if_icmp .ge 43, 3) := by decide +kernel
theorem dX5_runRound_59 : decode cX5_runRound 59 = .ok (.aload_n 0, 1) := by decide +kernel
theorem dX5_runRound_60 : decode cX5_runRound 60 = .ok (.getfield 11, 3) := by decide +kernel
theorem dX5_runRound_63 : decode cX5_runRound 63 = .ok (.iload_n 3, 1) := by decide +kernel
theorem dX5_runRound_64 : decode cX5_runRound 64 = .ok (.aaload, 1) := by decide +kernel
theorem dX5_runRound_65 : decode cX5_runRound 65 = .ok (.invokevirtual 184, 3) := by decide +kernel
theorem dX5_runRound_68 : decode cX5_runRound 68 = .ok (.iload_n 2, 1) := by decide +kernel
theorem dX5_runRound_69 : decode cX5_runRound 69 = .ok (.ifCond .ne 18, 3) := by decide +kernel
theorem dX5_runRound_72 : decode cX5_runRound 72 = .ok (.aload_n 0, 1) := by decide +kernel
theorem dX5_runRound_73 : decode cX5_runRound 73 = .ok (.getfield 11, 3) := by decide +kernel
theorem dX5_runRound_76 : decode cX5_runRound 76 = .ok (.iload_n 3, 1) := by decide +kernel
theorem dX5_runRound_77 : decode cX5_runRound 77 = .ok (.aaload, 1) := by decide +kernel
theorem dX5_runRound_78 : decode cX5_runRound 78 = .ok (.getfield 187, 3) := by decide +kernel
theorem dX5_runRound_81 : decode cX5_runRound 81 = .ok (.invokevirtual 190, 3) := by decide +kernel
theorem dX5_runRound_84 : decode cX5_runRound 84 = .ok (.ifCond .ne 7, 3) := by decide +kernel
theorem dX5_runRound_87 : decode cX5_runRound 87 = .ok (.iconst 1, 1) := by decide +kernel
theorem dX5_runRound_88 : decode cX5_runRound 88 = .ok (.goto 4, 3) := by decide +kernel
theorem dX5_runRound_91 : decode cX5_runRound 91 = .ok (.iconst 0, 1) := by decide +kernel
theorem dX5_runRound_92 : decode cX5_runRound 92 = .ok (.istore_n 2, 1) := by decide +kernel
theorem dX5_runRound_93 : decode cX5_runRound 93 = .ok (.iinc 3 1, 3) := by decide +kernel
theorem dX5_runRound_96 : decode cX5_runRound 96 = .ok (.goto (-42), 3) := by decide +kernel
theorem dX5_runRound_99 : decode cX5_runRound 99 = .ok (.iload_n 2, 1) := by decide +kernel
theorem dX5_runRound_100 : decode cX5_runRound 100 = .ok (.ireturn, 1) := by decide +kernel
theorem dX5_timesOnTheLeft_0 : decode cX5_timesOnTheLeft 0 = .ok (.iconst 0, 1) := by decide +kernel
theorem dX5_timesOnTheLeft_1 : decode cX5_timesOnTheLeft 1 = .ok (.istore_n 2, 1) := by decide +kernel
theorem dX5_timesOnTheLeft_2 : decode cX5_timesOnTheLeft 2 = .ok (.iconst 0, 1) := by decide +kernel
theorem dX5_timesOnTheLeft_3 : decode cX5_timesOnTheLeft 3 = .ok (.istore_n 3, 1) := by decide +kernel
theorem dX5_timesOnTheLeft_4 : decode cX5_timesOnTheLeft 4 = .ok (.iload_n 3, 1) := by decide +kernel
theorem dX5_timesOnTheLeft_5 : decode cX5_timesOnTheLeft 5 = .ok (.aload_n 0, 1) := by decide +kernel
theorem dX5_timesOnTheLeft_6 : decode cX5_timesOnTheLeft 6 = .ok (.getfield 21, 3) := by decide +kernel
theorem dX5_timesOnTheLeft_9 : decode cX5_timesOnTheLeft 9 = .ok (.if_icmp .ge 34, 3) := by decide +kernel
theorem dX5_timesOnTheLeft_12 : decode cX5_timesOnTheLeft 12 = .ok (.aload_n 0, 1) := by decide +kernel
theorem dX5_timesOnTheLeft_13 : decode cX5_timesOnTheLeft 13 = .ok (.getfield 17, 3) := by decide +kernel
theorem dX5_timesOnTheLeft_16 : decode cX5_timesOnTheLeft 16 = .ok (.iload_n 3, 1) := by decide +kernel
theorem dX5_timesOnTheLeft_17 : decode cX5_timesOnTheLeft 17 = .ok (.aaload, 1) := by decide +kernel
theorem dX5_timesOnTheLeft_18 : decode cX5_timesOnTheLeft 18 = .ok (.getfield 173, 3) := by decide +kernel
theorem dX5_timesOnTheLeft_21 : decode cX5_timesOnTheLeft 21 = .ok (.iload_n 1, 1) := by decide +kernel
theorem dX5_timesOnTheLeft_22 : decode cX5_timesOnTheLeft 22 = .ok (.if_icmp .ne 15, 3) := by decide +kernel
theorem dX5_timesOnTheLeft_25 : decode cX5_timesOnTheLeft 25 = .ok (.iload_n 2, 1) := by decide +kernel
theorem dX5_timesOnTheLeft_26 : decode cX5_timesOnTheLeft 26 = .ok (.aload_n 0, 1) := by decide +kernel
theorem dX5_timesOnTheLeft_27 : decode cX5_timesOnTheLeft 27 = .ok (.getfield 17, 3) := by decide +kernel
theorem dX5_timesOnTheLeft_30 : decode cX5_timesOnTheLeft 30 = .ok (.iload_n 3, 1) := by decide +kernel
theorem dX5_timesOnTheLeft_31 : decode cX5_timesOnTheLeft 31 = .ok (.aaload, 1) := by decide +kernel
theorem dX5_timesOnTheLeft_32 : decode cX5_timesOnTheLeft 32 = .ok (.getfield 128, 3) := by decide +kernel
theorem dX5_timesOnTheLeft_35 : decode cX5_timesOnTheLeft 35 = .ok (.iadd, 1) := by decide +kernel
theorem dX5_timesOnTheLeft_36 : decode cX5_timesOnTheLeft 36 = .ok (.istore_n 2, 1) := by decide +kernel
theorem dX5_timesOnTheLeft_37 : decode cX5_timesOnTheLeft 37 = .ok (.iinc 3 1, 3) := by decide +kernel
theorem dX5_timesOnTheLeft_40 : decode cX5_timesOnTheLeft 40 = .ok (.goto (-36), 3) := by decide +kernel
theorem dX5_timesOnTheLeft_43 : decode cX5_timesOnTheLeft 43 = .ok (.iload_n 2, 1) := by decide +kernel
theorem dX5_timesOnTheLeft_44 : decode cX5_timesOnTheLeft 44 = .ok (.ireturn, 1) := by decide +kernel
theorem dX5_timesOnTheRight_0 : decode cX5_timesOnTheRight 0 = .ok (.iconst 0, 1) := by decide +kernel
theorem dX5_timesOnTheRight_1 : decode cX5_timesOnTheRight 1 = .ok (.istore_n 2, 1) := by decide +kernel
theorem dX5_timesOnTheRight_2 : decode cX5_timesOnTheRight 2 = .ok (.iconst 0, 1) := by decide +kernel
theorem dX5_timesOnTheRight_3 : decode cX5_timesOnTheRight 3 = .ok (.istore_n 3, 1) := by decide +kernel
theorem dX5_timesOnTheRight_4 : decode cX5_timesOnTheRight 4 = .ok (.iload_n 3, 1) := by decide +kernel
theorem dX5_timesOnTheRight_5 : decode cX5_timesOnTheRight 5 = .ok (.aload_n 0, 1) := by decide +kernel
theorem dX5_timesOnTheRight_6 : decode cX5_timesOnTheRight 6 = .ok (.getfield 21, 3) := by decide +kernel
theorem dX5_timesOnTheRight_9 : decode cX5_timesOnTheRight 9 = .ok (.if_icmp .ge 32, 3) := by decide +kernel
theorem dX5_timesOnTheRight_12 : decode cX5_timesOnTheRight 12 = .ok (.iload_n 2, 1) := by decide +kernel
theorem dX5_timesOnTheRight_13 : decode cX5_timesOnTheRight 13 = .ok (.aload_n 0, 1) := by decide +kernel
theorem dX5_timesOnTheRight_14 : decode cX5_timesOnTheRight 14 = .ok (.getfield 17, 3) := by decide +kernel
theorem dX5_timesOnTheRight_17 : decode cX5_timesOnTheRight 17 = .ok (.iload_n 3, 1) := by decide +kernel
theorem dX5_timesOnTheRight_18 : decode cX5_timesOnTheRight 18 = .ok (.aaload, 1) := by decide +kernel
theorem dX5_timesOnTheRight_19 : decode cX5_timesOnTheRight 19 = .ok (.getfield 128, 3) := by decide +kernel
theorem dX5_timesOnTheRight_22 : decode cX5_timesOnTheRight 22 = .ok (.aload_n 0, 1) := by decide +kernel
theorem dX5_timesOnTheRight_23 : decode cX5_timesOnTheRight 23 = .ok (.getfield 17, 3) := by decide +kernel
theorem dX5_timesOnTheRight_26 : decode cX5_timesOnTheRight 26 = .ok (.iload_n 3, 1) := by decide +kernel
theorem dX5_timesOnTheRight_27 : decode cX5_timesOnTheRight 27 = .ok (.aaload, 1) := by decide +kernel
theorem dX5_timesOnTheRight_28 : decode cX5_timesOnTheRight 28 = .ok (.iload_n 1, 1) := by decide +kernel
theorem dX5_timesOnTheRight_29 : decode cX5_timesOnTheRight 29 = .ok (.invokevirtual 194, 3) := by decide +kernel
theorem dX5_timesOnTheRight_32 : decode cX5_timesOnTheRight 32 = .ok (.imul, 1) := by decide +kernel
theorem dX5_timesOnTheRight_33 : decode cX5_timesOnTheRight 33 = .ok (.iadd, 1) := by decide +kernel
theorem dX5_timesOnTheRight_34 : decode cX5_timesOnTheRight 34 = .ok (.istore_n 2, 1) := by decide +kernel
theorem dX5_timesOnTheRight_35 : decode cX5_timesOnTheRight 35 = .ok (.iinc 3 1, 3) := by decide +kernel
theorem dX5_timesOnTheRight_38 : decode cX5_timesOnTheRight 38 = .ok (.goto (-34), 3) := by decide +kernel
theorem dX5_timesOnTheRight_41 : decode cX5_timesOnTheRight 41 = .ok (.iload_n 2, 1) := by decide +kernel
theorem dX5_timesOnTheRight_42 : decode cX5_timesOnTheRight 42 = .ok (.ireturn, 1) := by decide +kernel
theorem dX5_reachedFrom_0 : decode cX5_reachedFrom 0 = .ok (.iconst 1, 1) := by decide +kernel
theorem dX5_reachedFrom_1 : decode cX5_reachedFrom 1 = .ok (.iload_n 1, 1) := by decide +kernel
theorem dX5_reachedFrom_2 : decode cX5_reachedFrom 2 = .ok (.ishl, 1) := by decide +kernel
theorem dX5_reachedFrom_3 : decode cX5_reachedFrom 3 = .ok (.istore_n 2, 1) := by decide +kernel
theorem dX5_reachedFrom_4 : decode cX5_reachedFrom 4 = .ok (.iconst 1, 1) := by decide +kernel
theorem dX5_reachedFrom_5 : decode cX5_reachedFrom 5 = .ok (.istore_n 3, 1) := by decide +kernel
theorem dX5_reachedFrom_6 : decode cX5_reachedFrom 6 = .ok (.iload_n 3, 1) := by decide +kernel
theorem dX5_reachedFrom_7 : decode cX5_reachedFrom 7 = .ok (.iconst 5, 1) := by decide +kernel
theorem dX5_reachedFrom_8 : decode cX5_reachedFrom 8 = .ok (.if_icmp .ge 70, 3) := by decide +kernel
theorem dX5_reachedFrom_11 : decode cX5_reachedFrom 11 = .ok (.iconst 0, 1) := by decide +kernel
theorem dX5_reachedFrom_12 : decode cX5_reachedFrom 12 = .ok (.istore 4, 2) := by decide +kernel
theorem dX5_reachedFrom_14 : decode cX5_reachedFrom 14 = .ok (.iload 4, 2) := by decide +kernel
theorem dX5_reachedFrom_16 : decode cX5_reachedFrom 16 = .ok (.aload_n 0, 1) := by decide +kernel
theorem dX5_reachedFrom_17 : decode cX5_reachedFrom 17 = .ok (.getfield 21, 3) := by decide +kernel
theorem dX5_reachedFrom_20 : decode cX5_reachedFrom 20 = .ok (.if_icmp .ge 52, 3) := by decide +kernel
theorem dX5_reachedFrom_23 : decode cX5_reachedFrom 23 = .ok (.aload_n 0, 1) := by decide +kernel
theorem dX5_reachedFrom_24 : decode cX5_reachedFrom 24 = .ok (.getfield 17, 3) := by decide +kernel
theorem dX5_reachedFrom_27 : decode cX5_reachedFrom 27 = .ok (.iload 4, 2) := by decide +kernel
theorem dX5_reachedFrom_29 : decode cX5_reachedFrom 29 = .ok (.aaload, 1) := by decide +kernel
theorem dX5_reachedFrom_30 : decode cX5_reachedFrom 30 = .ok (.getfield 128, 3) := by decide +kernel
theorem dX5_reachedFrom_33 : decode cX5_reachedFrom 33 = .ok (.ifCond .le 33, 3) := by decide +kernel
theorem dX5_reachedFrom_36 : decode cX5_reachedFrom 36 = .ok (.iload_n 2, 1) := by decide +kernel
theorem dX5_reachedFrom_37 : decode cX5_reachedFrom 37 = .ok (.aload_n 0, 1) := by decide +kernel
theorem dX5_reachedFrom_38 : decode cX5_reachedFrom 38 = .ok (.getfield 17, 3) := by decide +kernel
theorem dX5_reachedFrom_41 : decode cX5_reachedFrom 41 = .ok (.iload 4, 2) := by decide +kernel
theorem dX5_reachedFrom_43 : decode cX5_reachedFrom 43 = .ok (.aaload, 1) := by decide +kernel
theorem dX5_reachedFrom_44 : decode cX5_reachedFrom 44 = .ok (.getfield 173, 3) := by decide +kernel
theorem dX5_reachedFrom_47 : decode cX5_reachedFrom 47 = .ok (.ishr, 1) := by decide +kernel
theorem dX5_reachedFrom_48 : decode cX5_reachedFrom 48 = .ok (.iconst 1, 1) := by decide +kernel
theorem dX5_reachedFrom_49 : decode cX5_reachedFrom 49 = .ok (.iand, 1) := by decide +kernel
theorem dX5_reachedFrom_50 : decode cX5_reachedFrom 50 = .ok (.ifCond .eq 16, 3) := by decide +kernel
theorem dX5_reachedFrom_53 : decode cX5_reachedFrom 53 = .ok (.iload_n 2, 1) := by decide +kernel
theorem dX5_reachedFrom_54 : decode cX5_reachedFrom 54 = .ok (.aload_n 0, 1) := by decide +kernel
theorem dX5_reachedFrom_55 : decode cX5_reachedFrom 55 = .ok (.getfield 17, 3) := by decide +kernel
theorem dX5_reachedFrom_58 : decode cX5_reachedFrom 58 = .ok (.iload 4, 2) := by decide +kernel
theorem dX5_reachedFrom_60 : decode cX5_reachedFrom 60 = .ok (.aaload, 1) := by decide +kernel
theorem dX5_reachedFrom_61 : decode cX5_reachedFrom 61 = .ok (.invokevirtual 197, 3) := by decide +kernel
theorem dX5_reachedFrom_64 : decode cX5_reachedFrom 64 = .ok (.ior, 1) := by decide +kernel
theorem dX5_reachedFrom_65 : decode cX5_reachedFrom 65 = .ok (.istore_n 2, 1) := by decide +kernel
theorem dX5_reachedFrom_66 : decode cX5_reachedFrom 66 = .ok (.iinc 4 1, 3) := by decide +kernel
theorem dX5_reachedFrom_69 : decode cX5_reachedFrom 69 = .ok (.goto (-55), 3) := by decide +kernel
theorem dX5_reachedFrom_72 : decode cX5_reachedFrom 72 = .ok (.iinc 3 1, 3) := by decide +kernel
theorem dX5_reachedFrom_75 : decode cX5_reachedFrom 75 = .ok (.goto (-69), 3) := by decide +kernel
theorem dX5_reachedFrom_78 : decode cX5_reachedFrom 78 = .ok (.iload_n 2, 1) := by decide +kernel
theorem dX5_reachedFrom_79 : decode cX5_reachedFrom 79 = .ok (.ireturn, 1) := by decide +kernel
end
section
theorem dX6_init_0 : decode cX6_init 0 = .ok (.aload_n 0, 1) := by decide +kernel
theorem dX6_init_1 : decode cX6_init 1 = .ok (.invokespecial 1, 3) := by decide +kernel
theorem dX6_init_4 : decode cX6_init 4 = .ok (.aload_n 0, 1) := by decide +kernel
theorem dX6_init_5 : decode cX6_init 5 = .ok (.bipush 10, 2) := by decide +kernel
theorem dX6_init_7 : decode cX6_init 7 = .ok (.newarray .int, 2) := by decide +kernel
theorem dX6_init_9 : decode cX6_init 9 = .ok (.putfield 7, 3) := by decide +kernel
theorem dX6_init_12 : decode cX6_init 12 = .ok (.aload_n 0, 1) := by decide +kernel
theorem dX6_init_13 : decode cX6_init 13 = .ok (.bipush 40, 2) := by decide +kernel
theorem dX6_init_15 : decode cX6_init 15 = .ok (.newarray .int, 2) := by decide +kernel
theorem dX6_init_17 : decode cX6_init 17 = .ok (.putfield 13, 3) := by decide +kernel
theorem dX6_init_20 : decode cX6_init 20 = .ok (.aload_n 0, 1) := by decide +kernel
theorem dX6_init_21 : decode cX6_init 21 = .ok (.bipush 10, 2) := by decide +kernel
theorem dX6_init_23 : decode cX6_init 23 = .ok (.newarray .int, 2) := by decide +kernel
theorem dX6_init_25 : decode cX6_init 25 = .ok (.putfield 16, 3) := by decide +kernel
theorem dX6_init_28 : decode cX6_init 28 = .ok (.aload_n 0, 1) := by decide +kernel
theorem dX6_init_29 : decode cX6_init 29 = .ok (.sipush 2560, 3) := by decide +kernel
theorem dX6_init_32 : decode cX6_init 32 = .ok (.newarray .int, 2) := by decide +kernel
theorem dX6_init_34 : decode cX6_init 34 = .ok (.putfield 19, 3) := by decide +kernel
theorem dX6_init_37 : decode cX6_init 37 = .ok (.aload_n 0, 1) := by decide +kernel
theorem dX6_init_38 : decode cX6_init 38 = .ok (.sipush 2560, 3) := by decide +kernel
theorem dX6_init_41 : decode cX6_init 41 = .ok (.newarray .boolean, 2) := by decide +kernel
theorem dX6_init_43 : decode cX6_init 43 = .ok (.putfield 22, 3) := by decide +kernel
theorem dX6_init_46 : decode cX6_init 46 = .ok (.aload_n 0, 1) := by decide +kernel
theorem dX6_init_47 : decode cX6_init 47 = .ok (.iconst (-1), 1) := by decide +kernel
theorem dX6_init_48 : decode cX6_init 48 = .ok (.putfield 26, 3) := by decide +kernel
theorem dX6_init_51 : decode cX6_init 51 = .ok (.aload_n 0, 1) := by decide +kernel
theorem dX6_init_52 : decode cX6_init 52 = .ok (.sipush 501, 3) := by decide +kernel
theorem dX6_init_55 : decode cX6_init 55 = .ok (.newarray .int, 2) := by decide +kernel
theorem dX6_init_57 : decode cX6_init 57 = .ok (.putfield 30, 3) := by decide +kernel
theorem dX6_init_60 : decode cX6_init 60 = .ok (.aload_n 0, 1) := by decide +kernel
theorem dX6_init_61 : decode cX6_init 61 = .ok (.sipush 501, 3) := by decide +kernel
theorem dX6_init_64 : decode cX6_init 64 = .ok (.newarray .int, 2) := by decide +kernel
theorem dX6_init_66 : decode cX6_init 66 = .ok (.putfield 33, 3) := by decide +kernel
theorem dX6_init_69 : decode cX6_init 69 = .ok (.aload_n 0, 1) := by decide +kernel
theorem dX6_init_70 : decode cX6_init 70 = .ok (.bipush 10, 2) := by decide +kernel
theorem dX6_init_72 : decode cX6_init 72 = .ok (.newarray .int, 2) := by decide +kernel
theorem dX6_init_74 : decode cX6_init 74 = .ok (.putfield 36, 3) := by decide +kernel
theorem dX6_init_77 : decode cX6_init 77 = .ok (.aload_n 0, 1) := by decide +kernel
theorem dX6_init_78 : decode cX6_init 78 = .ok (.sipush 2600, 3) := by decide +kernel
theorem dX6_init_81 : decode cX6_init 81 = .ok (.newarray .int, 2) := by decide +kernel
theorem dX6_init_83 : decode cX6_init 83 = .ok (.putfield 39, 3) := by decide +kernel
theorem dX6_init_86 : decode cX6_init 86 = .ok (.return_, 1) := by decide +kernel
theorem dX6_thrown_0 : decode cX6_thrown 0 = .ok (.aload_n 0, 1) := by decide +kernel
theorem dX6_thrown_1 : decode cX6_thrown 1 = .ok (.getfield 42, 3) := by decide +kernel
theorem dX6_thrown_4 : decode cX6_thrown 4 = .ok (.ireturn, 1) := by decide +kernel
theorem dX6_refuse_0 : decode cX6_refuse 0 = .ok (.aload_n 0, 1) := by decide +kernel
theorem dX6_refuse_1 : decode cX6_refuse 1 = .ok (.iload_n 1, 1) := by decide +kernel
theorem dX6_refuse_2 : decode cX6_refuse 2 = .ok (.ifCond .eq 7, 3) := by decide +kernel
theorem dX6_refuse_5 : decode cX6_refuse 5 = .ok (.iconst 1, 1) := by decide +kernel
theorem dX6_refuse_6 : decode cX6_refuse 6 = .ok (.goto 20, 3) := by decide +kernel
theorem dX6_refuse_9 : decode cX6_refuse 9 = .ok (.iload_n 2, 1) := by decide +kernel
theorem dX6_refuse_10 : decode cX6_refuse 10 = .ok (.ifCond .eq 7, 3) := by decide +kernel
theorem dX6_refuse_13 : decode cX6_refuse 13 = .ok (.iconst 2, 1) := by decide +kernel
theorem dX6_refuse_14 : decode cX6_refuse 14 = .ok (.goto 12, 3) := by decide +kernel
theorem dX6_refuse_17 : decode cX6_refuse 17 = .ok (.iload_n 3, 1) := by decide +kernel
theorem dX6_refuse_18 : decode cX6_refuse 18 = .ok (.ifCond .eq 7, 3) := by decide +kernel
theorem dX6_refuse_21 : decode cX6_refuse 21 = .ok (.iconst 3, 1) := by decide +kernel
theorem dX6_refuse_22 : decode cX6_refuse 22 = .ok (.goto 4, 3) := by decide +kernel
theorem dX6_refuse_25 : decode cX6_refuse 25 = .ok (.iconst 0, 1) := by decide +kernel
theorem dX6_refuse_26 : decode cX6_refuse 26 = .ok (.putfield 42, 3) := by decide +kernel
theorem dX6_refuse_29 : decode cX6_refuse 29 = .ok (.aload_n 0, 1) := by decide +kernel
theorem dX6_refuse_30 : decode cX6_refuse 30 = .ok (.getfield 42, 3) := by decide +kernel
theorem dX6_refuse_33 : decode cX6_refuse 33 = .ok (.ifCond .le 7, 3) := by decide +kernel
theorem dX6_refuse_36 : decode cX6_refuse 36 = .ok (.iconst 1, 1) := by decide +kernel
theorem dX6_refuse_37 : decode cX6_refuse 37 = .ok (.goto 4, 3) := by decide +kernel
theorem dX6_refuse_40 : decode cX6_refuse 40 = .ok (.iconst 0, 1) := by decide +kernel
theorem dX6_refuse_41 : decode cX6_refuse 41 = .ok (.ireturn, 1) := by decide +kernel
theorem dX6_in_0 : decode cX6_in 0 = .ok (.iload_n 0, 1) := by decide +kernel
theorem dX6_in_1 : decode cX6_in 1 = .ok (.iload_n 1, 1) := by decide +kernel
theorem dX6_in_2 : decode cX6_in 2 = .ok (.if_icmp .lt 12, 3) := by decide +kernel
theorem dX6_in_5 : decode cX6_in 5 = .ok (.iload_n 0, 1) := by decide +kernel
theorem dX6_in_6 : decode cX6_in 6 = .ok (.iload_n 2, 1) := by decide +kernel
theorem dX6_in_7 : decode cX6_in 7 = .ok (.if_icmp .gt 7, 3) := by decide +kernel
theorem dX6_in_10 : decode cX6_in 10 = .ok (.iconst 1, 1) := by decide +kernel
theorem dX6_in_11 : decode cX6_in 11 = .ok (.goto 4, 3) := by decide +kernel
theorem dX6_in_14 : decode cX6_in 14 = .ok (.iconst 0, 1) := by decide +kernel
theorem dX6_in_15 : decode cX6_in 15 = .ok (.ireturn, 1) := by decide +kernel
theorem dX6_isNonterminal_0 : decode cX6_isNonterminal 0 = .ok (.iload_n 0, 1) := by decide +kernel
theorem dX6_isNonterminal_1 : decode cX6_isNonterminal 1 = .ok (.iconst 0, 1) := by decide +kernel
theorem dX6_isNonterminal_2 : decode cX6_isNonterminal 2 = .ok (.iconst 4, 1) := by decide +kernel
theorem dX6_isNonterminal_3 : decode cX6_isNonterminal 3 = .ok (.invokestatic 45, 3) := by decide +kernel
theorem dX6_isNonterminal_6 : decode cX6_isNonterminal 6 = .ok (.ireturn, 1) := by decide +kernel
theorem dX6_rule_0 : decode cX6_rule 0 = .ok (.iload_n 1, 1) := by decide +kernel
theorem dX6_rule_1 : decode cX6_rule 1 = .ok (.invokestatic 49, 3) := by decide +kernel
theorem dX6_rule_4 : decode cX6_rule 4 = .ok (.ifCond .eq 49, 3) := by decide +kernel
theorem dX6_rule_7 : decode cX6_rule 7 = .ok (.iload_n 2, 1) := by decide +kernel
theorem dX6_rule_8 : decode cX6_rule 8 = .ok (.iconst (-1), 1) := by decide +kernel
theorem dX6_rule_9 : decode cX6_rule 9 = .ok (.bipush 7, 2) := by decide +kernel
theorem dX6_rule_11 : decode cX6_rule 11 = .ok (.invokestatic 45, 3) := by decide +kernel
theorem dX6_rule_14 : decode cX6_rule 14 = .ok (.ifCond .eq 39, 3) := by decide +kernel
theorem dX6_rule_17 : decode cX6_rule 17 = .ok (.iload_n 3, 1) := by decide +kernel
theorem dX6_rule_18 : decode cX6_rule 18 = .ok (.iconst (-1), 1) := by decide +kernel
theorem dX6_rule_19 : decode cX6_rule 19 = .ok (.bipush 7, 2) := by decide +kernel
theorem dX6_rule_21 : decode cX6_rule 21 = .ok (.invokestatic 45, 3) := by decide +kernel
theorem dX6_rule_24 : decode cX6_rule 24 = .ok (.ifCond .eq 29, 3) := by decide +kernel
theorem dX6_rule_27 : decode cX6_rule 27 = .ok (.iload 4, 2) := by decide +kernel
theorem dX6_rule_29 : decode cX6_rule 29 = .ok (.iconst (-1), 1) := by decide +kernel
theorem dX6_rule_30 : decode cX6_rule 30 = .ok (.bipush 7, 2) := by decide +kernel
theorem dX6_rule_32 : decode cX6_rule 32 = .ok (.invokestatic 45, 3) := by decide +kernel
theorem dX6_rule_35 : decode cX6_rule 35 = .ok (.ifCond .eq 18, 3) := by decide +kernel
theorem dX6_rule_38 : decode cX6_rule 38 = .ok (.iload 5, 2) := by decide +kernel
theorem dX6_rule_40 : decode cX6_rule 40 = .ok (.iconst (-1), 1) := by decide +kernel
theorem dX6_rule_41 : decode cX6_rule 41 = .ok (.bipush 7, 2) := by decide +kernel
theorem dX6_rule_43 : decode cX6_rule 43 = .ok (.invokestatic 45, 3) := by decide +kernel
theorem dX6_rule_46 : decode cX6_rule 46 = .ok (.ifCond .eq 7, 3) := by decide +kernel
theorem dX6_rule_49 : decode cX6_rule 49 = .ok (.iconst 1, 1) := by decide +kernel
theorem dX6_rule_50 : decode cX6_rule 50 = .ok (.goto 4, 3) := by decide +kernel
theorem dX6_rule_53 : decode cX6_rule 53 = .ok (.iconst 0, 1) := by decide +kernel
theorem dX6_rule_54 : decode cX6_rule 54 = .ok (.istore 6, 2) := by decide +kernel
theorem dX6_rule_56 : decode cX6_rule 56 = .ok (.aload_n 0, 1) := by decide +kernel
theorem dX6_rule_57 : decode cX6_rule 57 = .ok (.iload 6, 2) := by decide +kernel
theorem dX6_rule_59 : decode cX6_rule 59 = .ok (.ifCond .ne 7, 3) := by decide +kernel
theorem dX6_rule_62 : decode cX6_rule 62 = .ok (.iconst 1, 1) := by decide +kernel
theorem dX6_rule_63 : decode cX6_rule 63 = .ok (.goto 4, 3) := by decide +kernel
theorem dX6_rule_66 : decode cX6_rule 66 = .ok (.iconst 0, 1) := by decide +kernel
theorem dX6_rule_67 : decode cX6_rule 67 = .ok (.aload_n 0, 1) := by decide +kernel
theorem dX6_rule_68 : decode cX6_rule 68 = .ok (.getfield 53, 3) := by decide +kernel
theorem dX6_rule_71 : decode cX6_rule 71 = .ok (.bipush 10, 2) := by decide +kernel
theorem dX6_rule_73 : decode cX6_rule 73 = .ok (.if_icmp .ne 7, 3) := by decide +kernel
theorem dX6_rule_76 : decode cX6_rule 76 = .ok (.iconst 1, 1) := by decide +kernel
theorem dX6_rule_77 : decode cX6_rule 77 = .ok (.goto 4, 3) := by decide +kernel
theorem dX6_rule_80 : decode cX6_rule 80 = .ok (.iconst 0, 1) := by decide +kernel
theorem dX6_rule_81 : decode cX6_rule 81 = .ok (.iconst 0, 1) := by decide +kernel
theorem dX6_rule_82 : decode cX6_rule 82 = .ok (.invokevirtual 56, 3) := by decide +kernel
theorem dX6_rule_85 : decode cX6_rule 85 = .ok (.ifCond .eq 5, 3) := by decide +kernel
theorem dX6_rule_88 : decode cX6_rule 88 = .ok (.iconst 0, 1) := by decide +kernel
theorem dX6_rule_89 : decode cX6_rule 89 = .ok (.ireturn, 1) := by decide +kernel
theorem dX6_rule_90 : decode cX6_rule 90 = .ok (.aload_n 0, 1) := by decide +kernel
theorem dX6_rule_91 : decode cX6_rule 91 = .ok (.getfield 7, 3) := by decide +kernel
theorem dX6_rule_94 : decode cX6_rule 94 = .ok (.aload_n 0, 1) := by decide +kernel
theorem dX6_rule_95 : decode cX6_rule 95 = .ok (.getfield 53, 3) := by decide +kernel
theorem dX6_rule_98 : decode cX6_rule 98 = .ok (.iload_n 1, 1) := by decide +kernel
theorem dX6_rule_99 : decode cX6_rule 99 = .ok (.iastore, 1) := by decide +kernel
theorem dX6_rule_100 : decode cX6_rule 100 = .ok (.aload_n 0, 1) := by decide +kernel
theorem dX6_rule_101 : decode cX6_rule 101 = .ok (.getfield 13, 3) := by decide +kernel
theorem dX6_rule_104 : decode cX6_rule 104 = .ok (.iconst 4, 1) := by decide +kernel
theorem dX6_rule_105 : decode cX6_rule 105 = .ok (.aload_n 0, 1) := by decide +kernel
theorem dX6_rule_106 : decode cX6_rule 106 = .ok (.getfield 53, 3) := by decide +kernel
theorem dX6_rule_109 : decode cX6_rule 109 = .ok (.imul, 1) := by decide +kernel
theorem dX6_rule_110 : decode cX6_rule 110 = .ok (.iload_n 2, 1) := by decide +kernel
theorem dX6_rule_111 : decode cX6_rule 111 = .ok (.iastore, 1) := by decide +kernel
theorem dX6_rule_112 : decode cX6_rule 112 = .ok (.aload_n 0, 1) := by decide +kernel
theorem dX6_rule_113 : decode cX6_rule 113 = .ok (.getfield 13, 3) := by decide +kernel
theorem dX6_rule_116 : decode cX6_rule 116 = .ok (.iconst 4, 1) := by decide +kernel
theorem dX6_rule_117 : decode cX6_rule 117 = .ok (.aload_n 0, 1) := by decide +kernel
theorem dX6_rule_118 : decode cX6_rule 118 = .ok (.getfield 53, 3) := by decide +kernel
theorem dX6_rule_121 : decode cX6_rule 121 = .ok (.imul, 1) := by decide +kernel
theorem dX6_rule_122 : decode cX6_rule 122 = .ok (.iconst 1, 1) := by decide +kernel
theorem dX6_rule_123 : decode cX6_rule 123 = .ok (.iadd, 1) := by decide +kernel
theorem dX6_rule_124 : decode cX6_rule 124 = .ok (.iload_n 3, 1) := by decide +kernel
theorem dX6_rule_125 : decode cX6_rule 125 = .ok (.iastore, 1) := by decide +kernel
theorem dX6_rule_126 : decode cX6_rule 126 = .ok (.aload_n 0, 1) := by decide +kernel
theorem dX6_rule_127 : decode cX6_rule 127 = .ok (.getfield 13, 3) := by decide +kernel
theorem dX6_rule_130 : decode cX6_rule 130 = .ok (.iconst 4, 1) := by decide +kernel
theorem dX6_rule_131 : decode cX6_rule 131 = .ok (.aload_n 0, 1) := by decide +kernel
theorem dX6_rule_132 : decode cX6_rule 132 = .ok (.getfield 53, 3) := by decide +kernel
theorem dX6_rule_135 : decode cX6_rule 135 = .ok (.imul, 1) := by decide +kernel
theorem dX6_rule_136 : decode cX6_rule 136 = .ok (.iconst 2, 1) := by decide +kernel
theorem dX6_rule_137 : decode cX6_rule 137 = .ok (.iadd, 1) := by decide +kernel
theorem dX6_rule_138 : decode cX6_rule 138 = .ok (.iload 4, 2) := by decide +kernel
theorem dX6_rule_140 : decode cX6_rule 140 = .ok (.iastore, 1) := by decide +kernel
theorem dX6_rule_141 : decode cX6_rule 141 = .ok (.aload_n 0, 1) := by decide +kernel
theorem dX6_rule_142 : decode cX6_rule 142 = .ok (.getfield 13, 3) := by decide +kernel
theorem dX6_rule_145 : decode cX6_rule 145 = .ok (.iconst 4, 1) := by decide +kernel
theorem dX6_rule_146 : decode cX6_rule 146 = .ok (.aload_n 0, 1) := by decide +kernel
theorem dX6_rule_147 : decode cX6_rule 147 = .ok (.getfield 53, 3) := by decide +kernel
theorem dX6_rule_150 : decode cX6_rule 150 = .ok (.imul, 1) := by decide +kernel
theorem dX6_rule_151 : decode cX6_rule 151 = .ok (.iconst 3, 1) := by decide +kernel
theorem dX6_rule_152 : decode cX6_rule 152 = .ok (.iadd, 1) := by decide +kernel
theorem dX6_rule_153 : decode cX6_rule 153 = .ok (.iload 5, 2) := by decide +kernel
theorem dX6_rule_155 : decode cX6_rule 155 = .ok (.iastore, 1) := by decide +kernel
theorem dX6_rule_156 : decode cX6_rule 156 = .ok (.aload_n 0, 1) := by decide +kernel
theorem dX6_rule_157 : decode cX6_rule 157 = .ok (.getfield 16, 3) := by decide +kernel
theorem dX6_rule_160 : decode cX6_rule 160 = .ok (.aload_n 0, 1) := by decide +kernel
theorem dX6_rule_161 : decode cX6_rule 161 = .ok (.getfield 53, 3) := by decide +kernel
theorem dX6_rule_164 : decode cX6_rule 164 = .ok (.iconst 0, 1) := by decide +kernel
theorem dX6_rule_165 : decode cX6_rule 165 = .ok (.iastore, 1) := by decide +kernel
theorem dX6_rule_166 : decode cX6_rule 166 = .ok (.aload_n 0, 1) := by decide +kernel
theorem dX6_rule_167 : decode cX6_rule 167 = .ok (.dup, 1) := by decide +kernel
theorem dX6_rule_168 : decode cX6_rule 168 = .ok (.getfield 53, 3) := by decide +kernel
theorem dX6_rule_171 : decode cX6_rule 171 = .ok (.iconst 1, 1) := by decide +kernel
theorem dX6_rule_172 : decode cX6_rule 172 = .ok (.iadd, 1) := by decide +kernel
theorem dX6_rule_173 : decode cX6_rule 173 = .ok (.putfield 53, 3) := by decide +kernel
theorem dX6_rule_176 : decode cX6_rule 176 = .ok (.aload_n 0, 1) := by decide +kernel
theorem dX6_rule_177 : decode cX6_rule 177 = .ok (.iconst 0, 1) := by decide +kernel
theorem dX6_rule_178 : decode cX6_rule 178 = .ok (.putfield 60, 3) := by decide +kernel
theorem dX6_rule_181 : decode cX6_rule 181 = .ok (.aload_n 0, 1) := by decide +kernel
theorem dX6_rule_182 : decode cX6_rule 182 = .ok (.iconst (-1), 1) := by decide +kernel
theorem dX6_rule_183 : decode cX6_rule 183 = .ok (.putfield 26, 3) := by decide +kernel
theorem dX6_rule_186 : decode cX6_rule 186 = .ok (.aload_n 0, 1) := by decide +kernel
theorem dX6_rule_187 : decode cX6_rule 187 = .ok (.getfield 53, 3) := by decide +kernel
theorem dX6_rule_190 : decode cX6_rule 190 = .ok (.iconst 1, 1) := by decide +kernel
theorem dX6_rule_191 : decode cX6_rule 191 = .ok (.isub, 1) := by decide +kernel
theorem dX6_rule_192 : decode cX6_rule 192 = .ok (.ireturn, 1) := by decide +kernel
theorem dX6_clear_0 : decode cX6_clear 0 = .ok (.aload_n 0, 1) := by decide +kernel
theorem dX6_clear_1 : decode cX6_clear 1 = .ok (.iconst 0, 1) := by decide +kernel
theorem dX6_clear_2 : decode cX6_clear 2 = .ok (.putfield 42, 3) := by decide +kernel
theorem dX6_clear_5 : decode cX6_clear 5 = .ok (.aload_n 0, 1) := by decide +kernel
theorem dX6_clear_6 : decode cX6_clear 6 = .ok (.iconst 0, 1) := by decide +kernel
theorem dX6_clear_7 : decode cX6_clear 7 = .ok (.putfield 53, 3) := by decide +kernel
theorem dX6_clear_10 : decode cX6_clear 10 = .ok (.aload_n 0, 1) := by decide +kernel
theorem dX6_clear_11 : decode cX6_clear 11 = .ok (.iconst 0, 1) := by decide +kernel
theorem dX6_clear_12 : decode cX6_clear 12 = .ok (.putfield 60, 3) := by decide +kernel
theorem dX6_clear_15 : decode cX6_clear 15 = .ok (.aload_n 0, 1) := by decide +kernel
theorem dX6_clear_16 : decode cX6_clear 16 = .ok (.iconst (-1), 1) := by decide +kernel
theorem dX6_clear_17 : decode cX6_clear 17 = .ok (.putfield 26, 3) := by decide +kernel
theorem dX6_clear_20 : decode cX6_clear 20 = .ok (.return_, 1) := by decide +kernel
theorem dX6_times_0 : decode cX6_times 0 = .ok (.iconst 0, 1) := by decide +kernel
theorem dX6_times_1 : decode cX6_times 1 = .ok (.istore_n 3, 1) := by decide +kernel
theorem dX6_times_2 : decode cX6_times 2 = .ok (.iconst 4, 1) := by decide +kernel
theorem dX6_times_3 : decode cX6_times 3 = .ok (.iload_n 1, 1) := by decide +kernel
theorem dX6_times_4 : decode cX6_times 4 = .ok (.imul, 1) := by decide +kernel
theorem dX6_times_5 : decode cX6_times 5 = .ok (.istore 4, 2) := by decide +kernel
theorem dX6_times_7 : decode cX6_times 7 = .ok (.iload 4, 2) := by decide +kernel
theorem dX6_times_9 : decode cX6_times 9 = .ok (.iconst 4, 1) := by decide +kernel
theorem dX6_times_10 : decode cX6_times 10 = .ok (.iload_n 1, 1) := by decide +kernel
theorem dX6_times_11 : decode cX6_times 11 = .ok (.imul, 1) := by decide +kernel
theorem dX6_times_12 : decode cX6_times 12 = .ok (.iconst 4, 1) := by decide +kernel
theorem dX6_times_13 : decode cX6_times 13 = .ok (.iadd, 1) := by decide +kernel
theorem dX6_times_14 : decode cX6_times 14 = .ok (.if_icmp .ge 28, 3) := by decide +kernel
theorem dX6_times_17 : decode cX6_times 17 = .ok (.aload_n 0, 1) := by decide +kernel
theorem dX6_times_18 : decode cX6_times 18 = .ok (.getfield 13, 3) := by decide +kernel
theorem dX6_times_21 : decode cX6_times 21 = .ok (.iload 4, 2) := by decide +kernel
theorem dX6_times_23 : decode cX6_times 23 = .ok (.iaload, 1) := by decide +kernel
theorem dX6_times_24 : decode cX6_times 24 = .ok (.iload_n 2, 1) := by decide +kernel
theorem dX6_times_25 : decode cX6_times 25 = .ok (.if_icmp .ne 9, 3) := by decide +kernel
theorem dX6_times_28 : decode cX6_times 28 = .ok (.iload_n 3, 1) := by decide +kernel
theorem dX6_times_29 : decode cX6_times 29 = .ok (.iconst 1, 1) := by decide +kernel
theorem dX6_times_30 : decode cX6_times 30 = .ok (.iadd, 1) := by decide +kernel
theorem dX6_times_31 : decode cX6_times 31 = .ok (.goto 4, 3) := by decide +kernel
theorem dX6_times_34 : decode cX6_times 34 = .ok (.iload_n 3, 1) := by decide +kernel
theorem dX6_times_35 : decode cX6_times 35 = .ok (.istore_n 3, 1) := by decide +kernel
theorem dX6_times_36 : decode cX6_times 36 = .ok (.iinc 4 1, 3) := by decide +kernel
theorem dX6_times_39 : decode cX6_times 39 = .ok (.goto (-32), 3) := by decide +kernel
theorem dX6_times_42 : decode cX6_times 42 = .ok (.iload_n 3, 1) := by decide +kernel
theorem dX6_times_43 : decode cX6_times 43 = .ok (.ireturn, 1) := by decide +kernel
theorem dX6_own_0 : decode cX6_own 0 = .ok (.aload_n 0, 1) := by decide +kernel
theorem dX6_own_1 : decode cX6_own 1 = .ok (.iload_n 1, 1) := by decide +kernel
theorem dX6_own_2 : decode cX6_own 2 = .ok (.iconst 5, 1) := by decide +kernel
theorem dX6_own_3 : decode cX6_own 3 = .ok (.invokevirtual 64, 3) := by decide +kernel
theorem dX6_own_6 : decode cX6_own 6 = .ok (.bipush 8, 2) := by decide +kernel
theorem dX6_own_8 : decode cX6_own 8 = .ok (.aload_n 0, 1) := by decide +kernel
theorem dX6_own_9 : decode cX6_own 9 = .ok (.iload_n 1, 1) := by decide +kernel
theorem dX6_own_10 : decode cX6_own 10 = .ok (.bipush 6, 2) := by decide +kernel
theorem dX6_own_12 : decode cX6_own 12 = .ok (.invokevirtual 64, 3) := by decide +kernel
theorem dX6_own_15 : decode cX6_own 15 = .ok (.imul, 1) := by decide +kernel
theorem dX6_own_16 : decode cX6_own 16 = .ok (.iadd, 1) := by decide +kernel
theorem dX6_own_17 : decode cX6_own 17 = .ok (.bipush 64, 2) := by decide +kernel
theorem dX6_own_19 : decode cX6_own 19 = .ok (.aload_n 0, 1) := by decide +kernel
theorem dX6_own_20 : decode cX6_own 20 = .ok (.iload_n 1, 1) := by decide +kernel
theorem dX6_own_21 : decode cX6_own 21 = .ok (.bipush 7, 2) := by decide +kernel
theorem dX6_own_23 : decode cX6_own 23 = .ok (.invokevirtual 64, 3) := by decide +kernel
theorem dX6_own_26 : decode cX6_own 26 = .ok (.imul, 1) := by decide +kernel
theorem dX6_own_27 : decode cX6_own 27 = .ok (.iadd, 1) := by decide +kernel
theorem dX6_own_28 : decode cX6_own 28 = .ok (.ireturn, 1) := by decide +kernel
theorem dX6_sum_0 : decode cX6_sum 0 = .ok (.iload_n 0, 1) := by decide +kernel
theorem dX6_sum_1 : decode cX6_sum 1 = .ok (.bipush 8, 2) := by decide +kernel
theorem dX6_sum_3 : decode cX6_sum 3 = .ok (.irem, 1) := by decide +kernel
theorem dX6_sum_4 : decode cX6_sum 4 = .ok (.iload_n 1, 1) := by decide +kernel
theorem dX6_sum_5 : decode cX6_sum 5 = .ok (.bipush 8, 2) := by decide +kernel
theorem dX6_sum_7 : decode cX6_sum 7 = .ok (.irem, 1) := by decide +kernel
theorem dX6_sum_8 : decode cX6_sum 8 = .ok (.iadd, 1) := by decide +kernel
theorem dX6_sum_9 : decode cX6_sum 9 = .ok (.istore_n 2, 1) := by decide +kernel
theorem dX6_sum_10 : decode cX6_sum 10 = .ok (.iload_n 0, 1) := by decide +kernel
theorem dX6_sum_11 : decode cX6_sum 11 = .ok (.bipush 8, 2) := by decide +kernel
theorem dX6_sum_13 : decode cX6_sum 13 = .ok (.idiv, 1) := by decide +kernel
theorem dX6_sum_14 : decode cX6_sum 14 = .ok (.bipush 8, 2) := by decide +kernel
theorem dX6_sum_16 : decode cX6_sum 16 = .ok (.irem, 1) := by decide +kernel
theorem dX6_sum_17 : decode cX6_sum 17 = .ok (.iload_n 1, 1) := by decide +kernel
theorem dX6_sum_18 : decode cX6_sum 18 = .ok (.bipush 8, 2) := by decide +kernel
theorem dX6_sum_20 : decode cX6_sum 20 = .ok (.idiv, 1) := by decide +kernel
theorem dX6_sum_21 : decode cX6_sum 21 = .ok (.bipush 8, 2) := by decide +kernel
theorem dX6_sum_23 : decode cX6_sum 23 = .ok (.irem, 1) := by decide +kernel
theorem dX6_sum_24 : decode cX6_sum 24 = .ok (.iadd, 1) := by decide +kernel
theorem dX6_sum_25 : decode cX6_sum 25 = .ok (.istore_n 3, 1) := by decide +kernel
theorem dX6_sum_26 : decode cX6_sum 26 = .ok (.iload_n 0, 1) := by decide +kernel
theorem dX6_sum_27 : decode cX6_sum 27 = .ok (.bipush 64, 2) := by decide +kernel
theorem dX6_sum_29 : decode cX6_sum 29 = .ok (.idiv, 1) := by decide +kernel
theorem dX6_sum_30 : decode cX6_sum 30 = .ok (.iload_n 1, 1) := by decide +kernel
theorem dX6_sum_31 : decode cX6_sum 31 = .ok (.bipush 64, 2) := by decide +kernel
theorem dX6_sum_33 : decode cX6_sum 33 = .ok (.idiv, 1) := by decide +kernel
theorem dX6_sum_34 : decode cX6_sum 34 = .ok (.iadd, 1) := by decide +kernel
theorem dX6_sum_35 : decode cX6_sum 35 = .ok (.istore 4, 2) := by decide +kernel
theorem dX6_sum_37 : decode cX6_sum 37 = .ok (.iload_n 2, 1) := by decide +kernel
theorem dX6_sum_38 : decode cX6_sum 38 = .ok (.bipush 7, 2) := by decide +kernel
theorem dX6_sum_40 : decode cX6_sum 40 = .ok (.if_icmp .gt 16, 3) := by decide +kernel
theorem dX6_sum_43 : decode cX6_sum 43 = .ok (.iload_n 3, 1) := by decide +kernel
theorem dX6_sum_44 : decode cX6_sum 44 = .ok (.bipush 7, 2) := by decide +kernel
theorem dX6_sum_46 : decode cX6_sum 46 = .ok (.if_icmp .gt 10, 3) := by decide +kernel
theorem dX6_sum_49 : decode cX6_sum 49 = .ok (.iload 4, 2) := by decide +kernel
theorem dX6_sum_51 : decode cX6_sum 51 = .ok (.bipush 7, 2) := by decide +kernel
theorem dX6_sum_53 : decode cX6_sum 53 = .ok (.if_icmp .le 7, 3) := by decide +kernel
theorem dX6_sum_56 : decode cX6_sum 56 = .ok (.iconst (-1), 1) := by decide +kernel
theorem dX6_sum_57 : decode cX6_sum 57 = .ok (.goto 15, 3) := by decide +kernel
theorem dX6_sum_60 : decode cX6_sum 60 = .ok (.iload_n 2, 1) := by decide +kernel
theorem dX6_sum_61 : decode cX6_sum 61 = .ok (.bipush 8, 2) := by decide +kernel
theorem dX6_sum_63 : decode cX6_sum 63 = .ok (.iload_n 3, 1) := by decide +kernel
theorem dX6_sum_64 : decode cX6_sum 64 = .ok (.imul, 1) := by decide +kernel
theorem dX6_sum_65 : decode cX6_sum 65 = .ok (.iadd, 1) := by decide +kernel
theorem dX6_sum_66 : decode cX6_sum 66 = .ok (.bipush 64, 2) := by decide +kernel
theorem dX6_sum_68 : decode cX6_sum 68 = .ok (.iload 4, 2) := by decide +kernel
theorem dX6_sum_70 : decode cX6_sum 70 = .ok (.imul, 1) := by decide +kernel
theorem dX6_sum_71 : decode cX6_sum 71 = .ok (.iadd, 1) := by decide +kernel
theorem dX6_sum_72 : decode cX6_sum 72 = .ok (.ireturn, 1) := by decide +kernel
theorem dX6_less_0 : decode cX6_less 0 = .ok (.iload_n 0, 1) := by decide +kernel
theorem dX6_less_1 : decode cX6_less 1 = .ok (.bipush 8, 2) := by decide +kernel
theorem dX6_less_3 : decode cX6_less 3 = .ok (.irem, 1) := by decide +kernel
theorem dX6_less_4 : decode cX6_less 4 = .ok (.iload_n 1, 1) := by decide +kernel
theorem dX6_less_5 : decode cX6_less 5 = .ok (.bipush 8, 2) := by decide +kernel
theorem dX6_less_7 : decode cX6_less 7 = .ok (.irem, 1) := by decide +kernel
theorem dX6_less_8 : decode cX6_less 8 = .ok (.isub, 1) := by decide +kernel
theorem dX6_less_9 : decode cX6_less 9 = .ok (.istore_n 2, 1) := by decide +kernel
theorem dX6_less_10 : decode cX6_less 10 = .ok (.iload_n 0, 1) := by decide +kernel
theorem dX6_less_11 : decode cX6_less 11 = .ok (.bipush 8, 2) := by decide +kernel
theorem dX6_less_13 : decode cX6_less 13 = .ok (.idiv, 1) := by decide +kernel
theorem dX6_less_14 : decode cX6_less 14 = .ok (.bipush 8, 2) := by decide +kernel
theorem dX6_less_16 : decode cX6_less 16 = .ok (.irem, 1) := by decide +kernel
theorem dX6_less_17 : decode cX6_less 17 = .ok (.iload_n 1, 1) := by decide +kernel
theorem dX6_less_18 : decode cX6_less 18 = .ok (.bipush 8, 2) := by decide +kernel
theorem dX6_less_20 : decode cX6_less 20 = .ok (.idiv, 1) := by decide +kernel
theorem dX6_less_21 : decode cX6_less 21 = .ok (.bipush 8, 2) := by decide +kernel
theorem dX6_less_23 : decode cX6_less 23 = .ok (.irem, 1) := by decide +kernel
theorem dX6_less_24 : decode cX6_less 24 = .ok (.isub, 1) := by decide +kernel
theorem dX6_less_25 : decode cX6_less 25 = .ok (.istore_n 3, 1) := by decide +kernel
theorem dX6_less_26 : decode cX6_less 26 = .ok (.iload_n 0, 1) := by decide +kernel
theorem dX6_less_27 : decode cX6_less 27 = .ok (.bipush 64, 2) := by decide +kernel
theorem dX6_less_29 : decode cX6_less 29 = .ok (.idiv, 1) := by decide +kernel
theorem dX6_less_30 : decode cX6_less 30 = .ok (.iload_n 1, 1) := by decide +kernel
theorem dX6_less_31 : decode cX6_less 31 = .ok (.bipush 64, 2) := by decide +kernel
theorem dX6_less_33 : decode cX6_less 33 = .ok (.idiv, 1) := by decide +kernel
theorem dX6_less_34 : decode cX6_less 34 = .ok (.isub, 1) := by decide +kernel
theorem dX6_less_35 : decode cX6_less 35 = .ok (.istore 4, 2) := by decide +kernel
theorem dX6_less_37 : decode cX6_less 37 = .ok (.iload_n 2, 1) := by decide +kernel
theorem dX6_less_38 : decode cX6_less 38 = .ok (.ifCond .lt 12, 3) := by decide +kernel
theorem dX6_less_41 : decode cX6_less 41 = .ok (.iload_n 3, 1) := by decide +kernel
theorem dX6_less_42 : decode cX6_less 42 = .ok (.ifCond .lt 8, 3) := by decide +kernel
theorem dX6_less_45 : decode cX6_less 45 = .ok (.iload 4, 2) := by decide +kernel
theorem dX6_less_47 : decode cX6_less 47 = .ok (.ifCond .ge 7, 3) := by decide +kernel
theorem dX6_less_50 : decode cX6_less 50 = .ok (.iconst (-1), 1) := by decide +kernel
theorem dX6_less_51 : decode cX6_less 51 = .ok (.goto 15, 3) := by decide +kernel
theorem dX6_less_54 : decode cX6_less 54 = .ok (.iload_n 2, 1) := by decide +kernel
theorem dX6_less_55 : decode cX6_less 55 = .ok (.bipush 8, 2) := by decide +kernel
theorem dX6_less_57 : decode cX6_less 57 = .ok (.iload_n 3, 1) := by decide +kernel
theorem dX6_less_58 : decode cX6_less 58 = .ok (.imul, 1) := by decide +kernel
theorem dX6_less_59 : decode cX6_less 59 = .ok (.iadd, 1) := by decide +kernel
theorem dX6_less_60 : decode cX6_less 60 = .ok (.bipush 64, 2) := by decide +kernel
theorem dX6_less_62 : decode cX6_less 62 = .ok (.iload 4, 2) := by decide +kernel
theorem dX6_less_64 : decode cX6_less 64 = .ok (.imul, 1) := by decide +kernel
theorem dX6_less_65 : decode cX6_less 65 = .ok (.iadd, 1) := by decide +kernel
theorem dX6_less_66 : decode cX6_less 66 = .ok (.ireturn, 1) := by decide +kernel
theorem dX6_has_0 : decode cX6_has 0 = .ok (.aload_n 0, 1) := by decide +kernel
theorem dX6_has_1 : decode cX6_has 1 = .ok (.getfield 19, 3) := by decide +kernel
theorem dX6_has_4 : decode cX6_has 4 = .ok (.sipush 512, 3) := by decide +kernel
theorem dX6_has_7 : decode cX6_has 7 = .ok (.iload_n 1, 1) := by decide +kernel
theorem dX6_has_8 : decode cX6_has 8 = .ok (.imul, 1) := by decide +kernel
theorem dX6_has_9 : decode cX6_has 9 = .ok (.iload_n 2, 1) := by decide +kernel
theorem dX6_has_10 : decode cX6_has 10 = .ok (.iadd, 1) := by decide +kernel
theorem dX6_has_11 : decode cX6_has 11 = .ok (.iaload, 1) := by decide +kernel
theorem dX6_has_12 : decode cX6_has 12 = .ok (.istore 4, 2) := by decide +kernel
theorem dX6_has_14 : decode cX6_has 14 = .ok (.iload 4, 2) := by decide +kernel
theorem dX6_has_16 : decode cX6_has 16 = .ok (.ifCond .le 13, 3) := by decide +kernel
theorem dX6_has_19 : decode cX6_has 19 = .ok (.iload 4, 2) := by decide +kernel
theorem dX6_has_21 : decode cX6_has 21 = .ok (.iload_n 3, 1) := by decide +kernel
theorem dX6_has_22 : decode cX6_has 22 = .ok (.if_icmp .ge 7, 3) := by decide +kernel
theorem dX6_has_25 : decode cX6_has 25 = .ok (.iconst 1, 1) := by decide +kernel
theorem dX6_has_26 : decode cX6_has 26 = .ok (.goto 4, 3) := by decide +kernel
theorem dX6_has_29 : decode cX6_has 29 = .ok (.iconst 0, 1) := by decide +kernel
theorem dX6_has_30 : decode cX6_has 30 = .ok (.ireturn, 1) := by decide +kernel
theorem dX6_reckonSums_0 : decode cX6_reckonSums 0 = .ok (.iconst 0, 1) := by decide +kernel
theorem dX6_reckonSums_1 : decode cX6_reckonSums 1 = .ok (.istore_n 3, 1) := by decide +kernel
theorem dX6_reckonSums_2 : decode cX6_reckonSums 2 = .ok (.iload_n 3, 1) := by decide +kernel
theorem dX6_reckonSums_3 : decode cX6_reckonSums 3 = .ok (.sipush 512, 3) := by decide +kernel
theorem dX6_reckonSums_6 : decode cX6_reckonSums 6 = .ok (.if_icmp .ge 28, 3) := by decide +kernel
theorem dX6_reckonSums_9 : decode cX6_reckonSums 9 = .ok (.aload_n 0, 1) := by decide +kernel
theorem dX6_reckonSums_10 : decode cX6_reckonSums 10 = .ok (.getfield 22, 3) := by decide +kernel
theorem dX6_reckonSums_13 : decode cX6_reckonSums 13 = .ok (.sipush 2048, 3) := by decide +kernel
theorem dX6_reckonSums_16 : decode cX6_reckonSums 16 = .ok (.iload_n 3, 1) := by decide +kernel
theorem dX6_reckonSums_17 : decode cX6_reckonSums 17 = .ok (.iadd, 1) := by decide +kernel
theorem dX6_reckonSums_18 : decode cX6_reckonSums 18 = .ok (.iload_n 3, 1) := by decide +kernel
theorem dX6_reckonSums_19 : decode cX6_reckonSums 19 = .ok (.ifCond .ne 7, 3) := by decide +kernel
theorem dX6_reckonSums_22 : decode cX6_reckonSums 22 = .ok (.iconst 1, 1) := by decide +kernel
theorem dX6_reckonSums_23 : decode cX6_reckonSums 23 = .ok (.goto 4, 3) := by decide +kernel
theorem dX6_reckonSums_26 : decode cX6_reckonSums 26 = .ok (.iconst 0, 1) := by decide +kernel
theorem dX6_reckonSums_27 : decode cX6_reckonSums 27 = .ok (.bastore, 1) := by decide +kernel
theorem dX6_reckonSums_28 : decode cX6_reckonSums 28 = .ok (.iinc 3 1, 3) := by decide +kernel
theorem dX6_reckonSums_31 : decode cX6_reckonSums 31 = .ok (.goto (-29), 3) := by decide +kernel
theorem dX6_reckonSums_34 : decode cX6_reckonSums 34 = .ok (.iconst 3, 1) := by decide +kernel
theorem dX6_reckonSums_35 : decode cX6_reckonSums 35 = .ok (.istore_n 3, 1) := by decide +kernel
theorem dX6_reckonSums_36 : decode cX6_reckonSums 36 = .ok (.iload_n 3, 1) := by decide +kernel
theorem dX6_reckonSums_37 : decode cX6_reckonSums 37 = .ok (.ifCond .lt 127, 3) := by decide +kernel
theorem dX6_reckonSums_40 : decode cX6_reckonSums 40 = .ok (.aload_n 0, 1) := by decide +kernel
theorem dX6_reckonSums_41 : decode cX6_reckonSums 41 = .ok (.getfield 13, 3) := by decide +kernel
theorem dX6_reckonSums_44 : decode cX6_reckonSums 44 = .ok (.iconst 4, 1) := by decide +kernel
theorem dX6_reckonSums_45 : decode cX6_reckonSums 45 = .ok (.iload_n 1, 1) := by decide +kernel
theorem dX6_reckonSums_46 : decode cX6_reckonSums 46 = .ok (.imul, 1) := by decide +kernel
theorem dX6_reckonSums_47 : decode cX6_reckonSums 47 = .ok (.iload_n 3, 1) := by decide +kernel
theorem dX6_reckonSums_48 : decode cX6_reckonSums 48 = .ok (.iadd, 1) := by decide +kernel
theorem dX6_reckonSums_49 : decode cX6_reckonSums 49 = .ok (.iaload, 1) := by decide +kernel
theorem dX6_reckonSums_50 : decode cX6_reckonSums 50 = .ok (.istore 4, 2) := by decide +kernel
theorem dX6_reckonSums_52 : decode cX6_reckonSums 52 = .ok (.iload 4, 2) := by decide +kernel
theorem dX6_reckonSums_54 : decode cX6_reckonSums 54 = .ok (.invokestatic 49, 3) := by decide +kernel
theorem dX6_reckonSums_57 : decode cX6_reckonSums 57 = .ok (.istore 5, 2) := by decide +kernel
theorem dX6_reckonSums_59 : decode cX6_reckonSums 59 = .ok (.iconst 0, 1) := by decide +kernel
theorem dX6_reckonSums_60 : decode cX6_reckonSums 60 = .ok (.istore 6, 2) := by decide +kernel
theorem dX6_reckonSums_62 : decode cX6_reckonSums 62 = .ok (.iload 6, 2) := by decide +kernel
theorem dX6_reckonSums_64 : decode cX6_reckonSums 64 = .ok (.sipush 512, 3) := by decide +kernel
theorem dX6_reckonSums_67 : decode cX6_reckonSums 67 = .ok (.if_icmp .ge 50, 3) := by decide +kernel
theorem dX6_reckonSums_70 : decode cX6_reckonSums 70 = .ok (.aload_n 0, 1) := by decide +kernel
theorem dX6_reckonSums_71 : decode cX6_reckonSums 71 = .ok (.getfield 22, 3) := by decide +kernel
theorem dX6_reckonSums_74 : decode cX6_reckonSums 74 = .ok (.sipush 512, 3) := by decide +kernel
theorem dX6_reckonSums_77 : decode cX6_reckonSums 77 = .ok (.iload_n 3, 1) := by decide +kernel
theorem dX6_reckonSums_78 : decode cX6_reckonSums 78 = .ok (.imul, 1) := by decide +kernel
theorem dX6_reckonSums_79 : decode cX6_reckonSums 79 = .ok (.iload 6, 2) := by decide +kernel
theorem dX6_reckonSums_81 : decode cX6_reckonSums 81 = .ok (.iadd, 1) := by decide +kernel
theorem dX6_reckonSums_82 : decode cX6_reckonSums 82 = .ok (.iload 5, 2) := by decide +kernel
theorem dX6_reckonSums_84 : decode cX6_reckonSums 84 = .ok (.ifCond .ne 25, 3) := by decide +kernel
theorem dX6_reckonSums_87 : decode cX6_reckonSums 87 = .ok (.aload_n 0, 1) := by decide +kernel
theorem dX6_reckonSums_88 : decode cX6_reckonSums 88 = .ok (.getfield 22, 3) := by decide +kernel
theorem dX6_reckonSums_91 : decode cX6_reckonSums 91 = .ok (.sipush 512, 3) := by decide +kernel
theorem dX6_reckonSums_94 : decode cX6_reckonSums 94 = .ok (.iload_n 3, 1) := by decide +kernel
theorem dX6_reckonSums_95 : decode cX6_reckonSums 95 = .ok (.iconst 1, 1) := by decide +kernel
theorem dX6_reckonSums_96 : decode cX6_reckonSums 96 = .ok (.iadd, 1) := by decide +kernel
theorem dX6_reckonSums_97 : decode cX6_reckonSums 97 = .ok (.imul, 1) := by decide +kernel
theorem dX6_reckonSums_98 : decode cX6_reckonSums 98 = .ok (.iload 6, 2) := by decide +kernel
theorem dX6_reckonSums_100 : decode cX6_reckonSums 100 = .ok (.iadd, 1) := by decide +kernel
theorem dX6_reckonSums_101 : decode cX6_reckonSums 101 = .ok (.baload, 1) := by decide +kernel
theorem dX6_reckonSums_102 : decode cX6_reckonSums 102 = .ok (.ifCond .eq 7, 3) := by decide +kernel
theorem dX6_reckonSums_105 : decode cX6_reckonSums 105 = .ok (.iconst 1, 1) := by decide +kernel
theorem dX6_reckonSums_106 : decode cX6_reckonSums 106 = .ok (.goto 4, 3) := by decide +kernel
theorem dX6_reckonSums_109 : decode cX6_reckonSums 109 = .ok (.iconst 0, 1) := by decide +kernel
theorem dX6_reckonSums_110 : decode cX6_reckonSums 110 = .ok (.bastore, 1) := by decide +kernel
theorem dX6_reckonSums_111 : decode cX6_reckonSums 111 = .ok (.iinc 6 1, 3) := by decide +kernel
theorem dX6_reckonSums_114 : decode cX6_reckonSums 114 = .ok (.goto (-52), 3) := by decide +kernel
theorem dX6_reckonSums_117 : decode cX6_reckonSums 117 = .ok (.iconst 0, 1) := by decide +kernel
theorem dX6_reckonSums_118 : decode cX6_reckonSums 118 = .ok (.istore 6, 2) := by decide +kernel
theorem dX6_reckonSums_120 : decode cX6_reckonSums 120 = .ok (.iload 6, 2) := by decide +kernel
theorem dX6_reckonSums_122 : decode cX6_reckonSums 122 = .ok (.sipush 512, 3) := by decide +kernel
theorem dX6_reckonSums_125 : decode cX6_reckonSums 125 = .ok (.if_icmp .ge 33, 3) := by decide +kernel
theorem dX6_reckonSums_128 : decode cX6_reckonSums 128 = .ok (.iload 5, 2) := by decide +kernel
theorem dX6_reckonSums_130 : decode cX6_reckonSums 130 = .ok (.ifCond .eq 28, 3) := by decide +kernel
theorem dX6_reckonSums_133 : decode cX6_reckonSums 133 = .ok (.aload_n 0, 1) := by decide +kernel
theorem dX6_reckonSums_134 : decode cX6_reckonSums 134 = .ok (.iload 4, 2) := by decide +kernel
theorem dX6_reckonSums_136 : decode cX6_reckonSums 136 = .ok (.iload 6, 2) := by decide +kernel
theorem dX6_reckonSums_138 : decode cX6_reckonSums 138 = .ok (.iload_n 2, 1) := by decide +kernel
theorem dX6_reckonSums_139 : decode cX6_reckonSums 139 = .ok (.invokevirtual 68, 3) := by decide +kernel
theorem dX6_reckonSums_142 : decode cX6_reckonSums 142 = .ok (.ifCond .eq 10, 3) := by decide +kernel
theorem dX6_reckonSums_145 : decode cX6_reckonSums 145 = .ok (.aload_n 0, 1) := by decide +kernel
theorem dX6_reckonSums_146 : decode cX6_reckonSums 146 = .ok (.iload_n 3, 1) := by decide +kernel
theorem dX6_reckonSums_147 : decode cX6_reckonSums 147 = .ok (.iload 6, 2) := by decide +kernel
theorem dX6_reckonSums_149 : decode cX6_reckonSums 149 = .ok (.invokevirtual 71, 3) := by decide +kernel
theorem dX6_reckonSums_152 : decode cX6_reckonSums 152 = .ok (.iinc 6 1, 3) := by decide +kernel
theorem dX6_reckonSums_155 : decode cX6_reckonSums 155 = .ok (.goto (-35), 3) := by decide +kernel
theorem dX6_reckonSums_158 : decode cX6_reckonSums 158 = .ok (.iinc 3 (-1), 3) := by decide +kernel
theorem dX6_reckonSums_161 : decode cX6_reckonSums 161 = .ok (.goto (-125), 3) := by decide +kernel
theorem dX6_reckonSums_164 : decode cX6_reckonSums 164 = .ok (.return_, 1) := by decide +kernel
theorem dX6_shift_0 : decode cX6_shift 0 = .ok (.iconst 0, 1) := by decide +kernel
theorem dX6_shift_1 : decode cX6_shift 1 = .ok (.istore_n 3, 1) := by decide +kernel
theorem dX6_shift_2 : decode cX6_shift 2 = .ok (.iload_n 3, 1) := by decide +kernel
theorem dX6_shift_3 : decode cX6_shift 3 = .ok (.sipush 512, 3) := by decide +kernel
theorem dX6_shift_6 : decode cX6_shift 6 = .ok (.if_icmp .ge 56, 3) := by decide +kernel
theorem dX6_shift_9 : decode cX6_shift 9 = .ok (.aload_n 0, 1) := by decide +kernel
theorem dX6_shift_10 : decode cX6_shift 10 = .ok (.getfield 22, 3) := by decide +kernel
theorem dX6_shift_13 : decode cX6_shift 13 = .ok (.sipush 512, 3) := by decide +kernel
theorem dX6_shift_16 : decode cX6_shift 16 = .ok (.iload_n 1, 1) := by decide +kernel
theorem dX6_shift_17 : decode cX6_shift 17 = .ok (.iconst 1, 1) := by decide +kernel
theorem dX6_shift_18 : decode cX6_shift 18 = .ok (.iadd, 1) := by decide +kernel
theorem dX6_shift_19 : decode cX6_shift 19 = .ok (.imul, 1) := by decide +kernel
theorem dX6_shift_20 : decode cX6_shift 20 = .ok (.iload_n 3, 1) := by decide +kernel
theorem dX6_shift_21 : decode cX6_shift 21 = .ok (.iadd, 1) := by decide +kernel
theorem dX6_shift_22 : decode cX6_shift 22 = .ok (.baload, 1) := by decide +kernel
theorem dX6_shift_23 : decode cX6_shift 23 = .ok (.ifCond .eq 11, 3) := by decide +kernel
theorem dX6_shift_26 : decode cX6_shift 26 = .ok (.iload_n 3, 1) := by decide +kernel
theorem dX6_shift_27 : decode cX6_shift 27 = .ok (.iload_n 2, 1) := by decide +kernel
theorem dX6_shift_28 : decode cX6_shift 28 = .ok (.invokestatic 75, 3) := by decide +kernel
theorem dX6_shift_31 : decode cX6_shift 31 = .ok (.goto 4, 3) := by decide +kernel
theorem dX6_shift_34 : decode cX6_shift 34 = .ok (.iconst (-1), 1) := by decide +kernel
theorem dX6_shift_35 : decode cX6_shift 35 = .ok (.istore 4, 2) := by decide +kernel
theorem dX6_shift_37 : decode cX6_shift 37 = .ok (.iload 4, 2) := by decide +kernel
theorem dX6_shift_39 : decode cX6_shift 39 = .ok (.ifCond .lt 17, 3) := by decide +kernel
theorem dX6_shift_42 : decode cX6_shift 42 = .ok (.aload_n 0, 1) := by decide +kernel
theorem dX6_shift_43 : decode cX6_shift 43 = .ok (.getfield 22, 3) := by decide +kernel
theorem dX6_shift_46 : decode cX6_shift 46 = .ok (.sipush 512, 3) := by decide +kernel
theorem dX6_shift_49 : decode cX6_shift 49 = .ok (.iload_n 1, 1) := by decide +kernel
theorem dX6_shift_50 : decode cX6_shift 50 = .ok (.imul, 1) := by decide +kernel
theorem dX6_shift_51 : decode cX6_shift 51 = .ok (.iload 4, 2) := by decide +kernel
theorem dX6_shift_53 : decode cX6_shift 53 = .ok (.iadd, 1) := by decide +kernel
theorem dX6_shift_54 : decode cX6_shift 54 = .ok (.iconst 1, 1) := by decide +kernel
theorem dX6_shift_55 : decode cX6_shift 55 = .ok (.bastore, 1) := by decide +kernel
theorem dX6_shift_56 : decode cX6_shift 56 = .ok (.iinc 3 1, 3) := by decide +kernel
theorem dX6_shift_59 : decode cX6_shift 59 = .ok (.goto (-57), 3) := by decide +kernel
theorem dX6_shift_62 : decode cX6_shift 62 = .ok (.return_, 1) := by decide +kernel
theorem dX6_isPlain_0 : decode cX6_isPlain 0 = .ok (.iconst 1, 1) := by decide +kernel
theorem dX6_isPlain_1 : decode cX6_isPlain 1 = .ok (.istore_n 2, 1) := by decide +kernel
theorem dX6_isPlain_2 : decode cX6_isPlain 2 = .ok (.iconst 0, 1) := by decide +kernel
theorem dX6_isPlain_3 : decode cX6_isPlain 3 = .ok (.istore_n 3, 1) := by decide +kernel
theorem dX6_isPlain_4 : decode cX6_isPlain 4 = .ok (.iload_n 3, 1) := by decide +kernel
theorem dX6_isPlain_5 : decode cX6_isPlain 5 = .ok (.iconst 4, 1) := by decide +kernel
theorem dX6_isPlain_6 : decode cX6_isPlain 6 = .ok (.if_icmp .ge 35, 3) := by decide +kernel
theorem dX6_isPlain_9 : decode cX6_isPlain 9 = .ok (.iload_n 2, 1) := by decide +kernel
theorem dX6_isPlain_10 : decode cX6_isPlain 10 = .ok (.ifCond .eq 23, 3) := by decide +kernel
theorem dX6_isPlain_13 : decode cX6_isPlain 13 = .ok (.aload_n 0, 1) := by decide +kernel
theorem dX6_isPlain_14 : decode cX6_isPlain 14 = .ok (.getfield 13, 3) := by decide +kernel
theorem dX6_isPlain_17 : decode cX6_isPlain 17 = .ok (.iconst 4, 1) := by decide +kernel
theorem dX6_isPlain_18 : decode cX6_isPlain 18 = .ok (.iload_n 1, 1) := by decide +kernel
theorem dX6_isPlain_19 : decode cX6_isPlain 19 = .ok (.imul, 1) := by decide +kernel
theorem dX6_isPlain_20 : decode cX6_isPlain 20 = .ok (.iload_n 3, 1) := by decide +kernel
theorem dX6_isPlain_21 : decode cX6_isPlain 21 = .ok (.iadd, 1) := by decide +kernel
theorem dX6_isPlain_22 : decode cX6_isPlain 22 = .ok (.iaload, 1) := by decide +kernel
theorem dX6_isPlain_23 : decode cX6_isPlain 23 = .ok (.invokestatic 49, 3) := by decide +kernel
theorem dX6_isPlain_26 : decode cX6_isPlain 26 = .ok (.ifCond .ne 7, 3) := by decide +kernel
theorem dX6_isPlain_29 : decode cX6_isPlain 29 = .ok (.iconst 1, 1) := by decide +kernel
theorem dX6_isPlain_30 : decode cX6_isPlain 30 = .ok (.goto 4, 3) := by decide +kernel
theorem dX6_isPlain_33 : decode cX6_isPlain 33 = .ok (.iconst 0, 1) := by decide +kernel
theorem dX6_isPlain_34 : decode cX6_isPlain 34 = .ok (.istore_n 2, 1) := by decide +kernel
theorem dX6_isPlain_35 : decode cX6_isPlain 35 = .ok (.iinc 3 1, 3) := by decide +kernel
theorem dX6_isPlain_38 : decode cX6_isPlain 38 = .ok (.goto (-34), 3) := by decide +kernel
theorem dX6_isPlain_41 : decode cX6_isPlain 41 = .ok (.iload_n 2, 1) := by decide +kernel
theorem dX6_isPlain_42 : decode cX6_isPlain 42 = .ok (.ireturn, 1) := by decide +kernel
theorem dX6_climb_0 : decode cX6_climb 0 = .ok (.iconst 0, 1) := by decide +kernel
theorem dX6_climb_1 : decode cX6_climb 1 = .ok (.istore_n 2, 1) := by decide +kernel
theorem dX6_climb_2 : decode cX6_climb 2 = .ok (.iconst 0, 1) := by decide +kernel
theorem dX6_climb_3 : decode cX6_climb 3 = .ok (.istore_n 3, 1) := by decide +kernel
theorem dX6_climb_4 : decode cX6_climb 4 = .ok (.iload_n 3, 1) := by decide +kernel
theorem dX6_climb_5 : decode cX6_climb 5 = .ok (.aload_n 0, 1) := by decide +kernel
theorem dX6_climb_6 : decode cX6_climb 6 = .ok (.getfield 53, 3) := by decide +kernel
theorem dX6_climb_9 : decode cX6_climb 9 = .ok (.if_icmp .ge 126, 3) := by decide +kernel
theorem dX6_climb_12 : decode cX6_climb 12 = .ok (.aload_n 0, 1) := by decide +kernel
theorem dX6_climb_13 : decode cX6_climb 13 = .ok (.iload_n 3, 1) := by decide +kernel
theorem dX6_climb_14 : decode cX6_climb 14 = .ok (.invokevirtual 78, 3) := by decide +kernel
theorem dX6_climb_17 : decode cX6_climb 17 = .ok (.iload_n 1, 1) := by decide +kernel
theorem dX6_climb_18 : decode cX6_climb 18 = .ok (.iconst 1, 1) := by decide +kernel
theorem dX6_climb_19 : decode cX6_climb 19 = .ok (.if_icmp .ne 7, 3) := by decide +kernel
theorem dX6_climb_22 : decode cX6_climb 22 = .ok (.iconst 1, 1) := by decide +kernel
theorem dX6_climb_23 : decode cX6_climb 23 = .ok (.goto 4, 3) := by decide +kernel
theorem dX6_climb_26 : decode cX6_climb 26 = .ok (.iconst 0, 1) := by decide +kernel
theorem dX6_climb_27 : decode cX6_climb 27 = .ok (.if_icmp .eq 6, 3) := by decide +kernel
theorem dX6_climb_30 : decode cX6_climb 30 = .ok (.goto 99, 3) := by decide +kernel
theorem dX6_climb_33 : decode cX6_climb 33 = .ok (.aload_n 0, 1) := by decide +kernel
theorem dX6_climb_34 : decode cX6_climb 34 = .ok (.iload_n 3, 1) := by decide +kernel
theorem dX6_climb_35 : decode cX6_climb 35 = .ok (.iload_n 1, 1) := by decide +kernel
theorem dX6_climb_36 : decode cX6_climb 36 = .ok (.invokevirtual 81, 3) := by decide +kernel
theorem dX6_climb_39 : decode cX6_climb 39 = .ok (.iconst 0, 1) := by decide +kernel
theorem dX6_climb_40 : decode cX6_climb 40 = .ok (.istore 4, 2) := by decide +kernel
theorem dX6_climb_42 : decode cX6_climb 42 = .ok (.iload 4, 2) := by decide +kernel
theorem dX6_climb_44 : decode cX6_climb 44 = .ok (.sipush 512, 3) := by decide +kernel
theorem dX6_climb_47 : decode cX6_climb 47 = .ok (.if_icmp .ge 82, 3) := by decide +kernel
theorem dX6_climb_50 : decode cX6_climb 50 = .ok (.aload_n 0, 1) := by decide +kernel
theorem dX6_climb_51 : decode cX6_climb 51 = .ok (.getfield 22, 3) := by decide +kernel
theorem dX6_climb_54 : decode cX6_climb 54 = .ok (.iload 4, 2) := by decide +kernel
theorem dX6_climb_56 : decode cX6_climb 56 = .ok (.baload, 1) := by decide +kernel
theorem dX6_climb_57 : decode cX6_climb 57 = .ok (.ifCond .eq 16, 3) := by decide +kernel
theorem dX6_climb_60 : decode cX6_climb 60 = .ok (.iload 4, 2) := by decide +kernel
theorem dX6_climb_62 : decode cX6_climb 62 = .ok (.aload_n 0, 1) := by decide +kernel
theorem dX6_climb_63 : decode cX6_climb 63 = .ok (.iload_n 3, 1) := by decide +kernel
theorem dX6_climb_64 : decode cX6_climb 64 = .ok (.invokevirtual 84, 3) := by decide +kernel
theorem dX6_climb_67 : decode cX6_climb 67 = .ok (.invokestatic 75, 3) := by decide +kernel
theorem dX6_climb_70 : decode cX6_climb 70 = .ok (.goto 4, 3) := by decide +kernel
theorem dX6_climb_73 : decode cX6_climb 73 = .ok (.iconst (-1), 1) := by decide +kernel
theorem dX6_climb_74 : decode cX6_climb 74 = .ok (.istore 5, 2) := by decide +kernel
theorem dX6_climb_76 : decode cX6_climb 76 = .ok (.iload 5, 2) := by decide +kernel
theorem dX6_climb_78 : decode cX6_climb 78 = .ok (.ifCond .lt 45, 3) := by decide +kernel
theorem dX6_climb_81 : decode cX6_climb 81 = .ok (.aload_n 0, 1) := by decide +kernel
theorem dX6_climb_82 : decode cX6_climb 82 = .ok (.getfield 19, 3) := by decide +kernel
theorem dX6_climb_85 : decode cX6_climb 85 = .ok (.sipush 512, 3) := by decide +kernel
theorem dX6_climb_88 : decode cX6_climb 88 = .ok (.aload_n 0, 1) := by decide +kernel
theorem dX6_climb_89 : decode cX6_climb 89 = .ok (.getfield 7, 3) := by decide +kernel
theorem dX6_climb_92 : decode cX6_climb 92 = .ok (.iload_n 3, 1) := by decide +kernel
theorem dX6_climb_93 : decode cX6_climb 93 = .ok (.iaload, 1) := by decide +kernel
theorem dX6_climb_94 : decode cX6_climb 94 = .ok (.imul, 1) := by decide +kernel
theorem dX6_climb_95 : decode cX6_climb 95 = .ok (.iload 5, 2) := by decide +kernel
theorem dX6_climb_97 : decode cX6_climb 97 = .ok (.iadd, 1) := by decide +kernel
theorem dX6_climb_98 : decode cX6_climb 98 = .ok (.iaload, 1) := by decide +kernel
theorem dX6_climb_99 : decode cX6_climb 99 = .ok (.ifCond .ne 24, 3) := by decide +kernel
theorem dX6_climb_102 : decode cX6_climb 102 = .ok (.aload_n 0, 1) := by decide +kernel
theorem dX6_climb_103 : decode cX6_climb 103 = .ok (.getfield 19, 3) := by decide +kernel
theorem dX6_climb_106 : decode cX6_climb 106 = .ok (.sipush 512, 3) := by decide +kernel
theorem dX6_climb_109 : decode cX6_climb 109 = .ok (.aload_n 0, 1) := by decide +kernel
theorem dX6_climb_110 : decode cX6_climb 110 = .ok (.getfield 7, 3) := by decide +kernel
theorem dX6_climb_113 : decode cX6_climb 113 = .ok (.iload_n 3, 1) := by decide +kernel
theorem dX6_climb_114 : decode cX6_climb 114 = .ok (.iaload, 1) := by decide +kernel
theorem dX6_climb_115 : decode cX6_climb 115 = .ok (.imul, 1) := by decide +kernel
theorem dX6_climb_116 : decode cX6_climb 116 = .ok (.iload 5, 2) := by decide +kernel
theorem dX6_climb_118 : decode cX6_climb 118 = .ok (.iadd, 1) := by decide +kernel
theorem dX6_climb_119 : decode cX6_climb 119 = .ok (.iload_n 1, 1) := by decide +kernel
theorem dX6_climb_120 : decode cX6_climb 120 = .ok (.iastore, 1) := by decide +kernel
theorem dX6_climb_121 : decode cX6_climb 121 = .ok (.iconst 1, 1) := by decide +kernel
theorem dX6_climb_122 : decode cX6_climb 122 = .ok (.istore_n 2, 1) := by decide +kernel
theorem dX6_climb_123 : decode cX6_climb 123 = .ok (.iinc 4 1, 3) := by decide +kernel
theorem dX6_climb_126 : decode cX6_climb 126 = .ok (.goto (-84), 3) := by decide +kernel
theorem dX6_climb_129 : decode cX6_climb 129 = .ok (.iinc 3 1, 3) := by decide +kernel
theorem dX6_climb_132 : decode cX6_climb 132 = .ok (.goto (-128), 3) := by decide +kernel
theorem dX6_climb_135 : decode cX6_climb 135 = .ok (.iload_n 2, 1) := by decide +kernel
theorem dX6_climb_136 : decode cX6_climb 136 = .ok (.ireturn, 1) := by decide +kernel
theorem dX6_reckon_0 : decode cX6_reckon 0 = .ok (.aload_n 0, 1) := by decide +kernel
theorem dX6_reckon_1 : decode cX6_reckon 1 = .ok (.getfield 60, 3) := by decide +kernel
theorem dX6_reckon_4 : decode cX6_reckon 4 = .ok (.ifCond .eq 4, 3) := by decide +kernel
theorem dX6_reckon_7 : decode cX6_reckon 7 = .ok (.return_, 1) := by decide +kernel
theorem dX6_reckon_8 : decode cX6_reckon 8 = .ok (.iconst 0, 1) := by decide +kernel
theorem dX6_reckon_9 : decode cX6_reckon 9 = .ok (.istore_n 1, 1) := by decide +kernel
theorem dX6_reckon_10 : decode cX6_reckon 10 = .ok (.iload_n 1, 1) := by decide +kernel
theorem dX6_reckon_11 : decode cX6_reckon 11 = .ok (.sipush 2560, 3) := by decide +kernel
theorem dX6_reckon_14 : decode cX6_reckon 14 = .ok (.if_icmp .ge 16, 3) := by decide +kernel
theorem dX6_reckon_17 : decode cX6_reckon 17 = .ok (.aload_n 0, 1) := by decide +kernel
theorem dX6_reckon_18 : decode cX6_reckon 18 = .ok (.getfield 19, 3) := by decide +kernel
theorem dX6_reckon_21 : decode cX6_reckon 21 = .ok (.iload_n 1, 1) := by decide +kernel
theorem dX6_reckon_22 : decode cX6_reckon 22 = .ok (.iconst 0, 1) := by decide +kernel
theorem dX6_reckon_23 : decode cX6_reckon 23 = .ok (.iastore, 1) := by decide +kernel
theorem dX6_reckon_24 : decode cX6_reckon 24 = .ok (.iinc 1 1, 3) := by decide +kernel
theorem dX6_reckon_27 : decode cX6_reckon 27 = .ok (.goto (-17), 3) := by decide +kernel
theorem dX6_reckon_30 : decode cX6_reckon 30 = .ok (.iconst 1, 1) := by decide +kernel
theorem dX6_reckon_31 : decode cX6_reckon 31 = .ok (.istore_n 1, 1) := by decide +kernel
theorem dX6_reckon_32 : decode cX6_reckon 32 = .ok (.aload_n 0, 1) := by decide +kernel
theorem dX6_reckon_33 : decode cX6_reckon 33 = .ok (.iload_n 1, 1) := by decide +kernel
theorem dX6_reckon_34 : decode cX6_reckon 34 = .ok (.invokevirtual 88, 3) := by decide +kernel
theorem dX6_reckon_37 : decode cX6_reckon 37 = .ok (.ifCond .eq 9, 3) := by decide +kernel
theorem dX6_reckon_40 : decode cX6_reckon 40 = .ok (.iinc 1 1, 3) := by decide +kernel
theorem dX6_reckon_43 : decode cX6_reckon 43 = .ok (.goto (-11), 3) := by decide +kernel
theorem dX6_reckon_46 : decode cX6_reckon 46 = .ok (.aload_n 0, 1) := by decide +kernel
theorem dX6_reckon_47 : decode cX6_reckon 47 = .ok (.iconst 1, 1) := by decide +kernel
theorem dX6_reckon_48 : decode cX6_reckon 48 = .ok (.putfield 60, 3) := by decide +kernel
theorem dX6_reckon_51 : decode cX6_reckon 51 = .ok (.return_, 1) := by decide +kernel
theorem dX6_isCount_0 : decode cX6_isCount 0 = .ok (.iload_n 0, 1) := by decide +kernel
theorem dX6_isCount_1 : decode cX6_isCount 1 = .ok (.invokestatic 49, 3) := by decide +kernel
theorem dX6_isCount_4 : decode cX6_isCount 4 = .ok (.ifCond .eq 37, 3) := by decide +kernel
theorem dX6_isCount_7 : decode cX6_isCount 7 = .ok (.iload_n 1, 1) := by decide +kernel
theorem dX6_isCount_8 : decode cX6_isCount 8 = .ok (.iconst 0, 1) := by decide +kernel
theorem dX6_isCount_9 : decode cX6_isCount 9 = .ok (.bipush 7, 2) := by decide +kernel
theorem dX6_isCount_11 : decode cX6_isCount 11 = .ok (.invokestatic 45, 3) := by decide +kernel
theorem dX6_isCount_14 : decode cX6_isCount 14 = .ok (.ifCond .eq 27, 3) := by decide +kernel
theorem dX6_isCount_17 : decode cX6_isCount 17 = .ok (.iload_n 2, 1) := by decide +kernel
theorem dX6_isCount_18 : decode cX6_isCount 18 = .ok (.iconst 0, 1) := by decide +kernel
theorem dX6_isCount_19 : decode cX6_isCount 19 = .ok (.bipush 7, 2) := by decide +kernel
theorem dX6_isCount_21 : decode cX6_isCount 21 = .ok (.invokestatic 45, 3) := by decide +kernel
theorem dX6_isCount_24 : decode cX6_isCount 24 = .ok (.ifCond .eq 17, 3) := by decide +kernel
theorem dX6_isCount_27 : decode cX6_isCount 27 = .ok (.iload_n 3, 1) := by decide +kernel
theorem dX6_isCount_28 : decode cX6_isCount 28 = .ok (.iconst 0, 1) := by decide +kernel
theorem dX6_isCount_29 : decode cX6_isCount 29 = .ok (.bipush 7, 2) := by decide +kernel
theorem dX6_isCount_31 : decode cX6_isCount 31 = .ok (.invokestatic 45, 3) := by decide +kernel
theorem dX6_isCount_34 : decode cX6_isCount 34 = .ok (.ifCond .eq 7, 3) := by decide +kernel
theorem dX6_isCount_37 : decode cX6_isCount 37 = .ok (.iconst 1, 1) := by decide +kernel
theorem dX6_isCount_38 : decode cX6_isCount 38 = .ok (.goto 4, 3) := by decide +kernel
theorem dX6_isCount_41 : decode cX6_isCount 41 = .ok (.iconst 0, 1) := by decide +kernel
theorem dX6_isCount_42 : decode cX6_isCount 42 = .ok (.ireturn, 1) := by decide +kernel
theorem dX6_height_0 : decode cX6_height 0 = .ok (.aload_n 0, 1) := by decide +kernel
theorem dX6_height_1 : decode cX6_height 1 = .ok (.iload_n 1, 1) := by decide +kernel
theorem dX6_height_2 : decode cX6_height 2 = .ok (.iload_n 2, 1) := by decide +kernel
theorem dX6_height_3 : decode cX6_height 3 = .ok (.iload_n 3, 1) := by decide +kernel
theorem dX6_height_4 : decode cX6_height 4 = .ok (.iload 4, 2) := by decide +kernel
theorem dX6_height_6 : decode cX6_height 6 = .ok (.invokestatic 91, 3) := by decide +kernel
theorem dX6_height_9 : decode cX6_height 9 = .ok (.ifCond .ne 7, 3) := by decide +kernel
theorem dX6_height_12 : decode cX6_height 12 = .ok (.iconst 1, 1) := by decide +kernel
theorem dX6_height_13 : decode cX6_height 13 = .ok (.goto 4, 3) := by decide +kernel
theorem dX6_height_16 : decode cX6_height 16 = .ok (.iconst 0, 1) := by decide +kernel
theorem dX6_height_17 : decode cX6_height 17 = .ok (.iconst 0, 1) := by decide +kernel
theorem dX6_height_18 : decode cX6_height 18 = .ok (.iconst 0, 1) := by decide +kernel
theorem dX6_height_19 : decode cX6_height 19 = .ok (.invokevirtual 56, 3) := by decide +kernel
theorem dX6_height_22 : decode cX6_height 22 = .ok (.ifCond .eq 5, 3) := by decide +kernel
theorem dX6_height_25 : decode cX6_height 25 = .ok (.iconst 0, 1) := by decide +kernel
theorem dX6_height_26 : decode cX6_height 26 = .ok (.ireturn, 1) := by decide +kernel
theorem dX6_height_27 : decode cX6_height 27 = .ok (.aload_n 0, 1) := by decide +kernel
theorem dX6_height_28 : decode cX6_height 28 = .ok (.invokevirtual 95, 3) := by decide +kernel
theorem dX6_height_31 : decode cX6_height 31 = .ok (.aload_n 0, 1) := by decide +kernel
theorem dX6_height_32 : decode cX6_height 32 = .ok (.getfield 19, 3) := by decide +kernel
theorem dX6_height_35 : decode cX6_height 35 = .ok (.sipush 512, 3) := by decide +kernel
theorem dX6_height_38 : decode cX6_height 38 = .ok (.iload_n 1, 1) := by decide +kernel
theorem dX6_height_39 : decode cX6_height 39 = .ok (.imul, 1) := by decide +kernel
theorem dX6_height_40 : decode cX6_height 40 = .ok (.iload_n 2, 1) := by decide +kernel
theorem dX6_height_41 : decode cX6_height 41 = .ok (.iadd, 1) := by decide +kernel
theorem dX6_height_42 : decode cX6_height 42 = .ok (.bipush 8, 2) := by decide +kernel
theorem dX6_height_44 : decode cX6_height 44 = .ok (.iload_n 3, 1) := by decide +kernel
theorem dX6_height_45 : decode cX6_height 45 = .ok (.imul, 1) := by decide +kernel
theorem dX6_height_46 : decode cX6_height 46 = .ok (.iadd, 1) := by decide +kernel
theorem dX6_height_47 : decode cX6_height 47 = .ok (.bipush 64, 2) := by decide +kernel
theorem dX6_height_49 : decode cX6_height 49 = .ok (.iload 4, 2) := by decide +kernel
theorem dX6_height_51 : decode cX6_height 51 = .ok (.imul, 1) := by decide +kernel
theorem dX6_height_52 : decode cX6_height 52 = .ok (.iadd, 1) := by decide +kernel
theorem dX6_height_53 : decode cX6_height 53 = .ok (.iaload, 1) := by decide +kernel
theorem dX6_height_54 : decode cX6_height 54 = .ok (.istore 5, 2) := by decide +kernel
theorem dX6_height_56 : decode cX6_height 56 = .ok (.iload 5, 2) := by decide +kernel
theorem dX6_height_58 : decode cX6_height 58 = .ok (.ifCond .ne 7, 3) := by decide +kernel
theorem dX6_height_61 : decode cX6_height 61 = .ok (.iconst (-1), 1) := by decide +kernel
theorem dX6_height_62 : decode cX6_height 62 = .ok (.goto 5, 3) := by decide +kernel
theorem dX6_height_65 : decode cX6_height 65 = .ok (.iload 5, 2) := by decide +kernel
theorem dX6_height_67 : decode cX6_height 67 = .ok (.ireturn, 1) := by decide +kernel
theorem dX6_manyOf_0 : decode cX6_manyOf 0 = .ok (.iconst 0, 1) := by decide +kernel
theorem dX6_manyOf_1 : decode cX6_manyOf 1 = .ok (.istore_n 2, 1) := by decide +kernel
theorem dX6_manyOf_2 : decode cX6_manyOf 2 = .ok (.iconst 0, 1) := by decide +kernel
theorem dX6_manyOf_3 : decode cX6_manyOf 3 = .ok (.istore_n 3, 1) := by decide +kernel
theorem dX6_manyOf_4 : decode cX6_manyOf 4 = .ok (.iload_n 3, 1) := by decide +kernel
theorem dX6_manyOf_5 : decode cX6_manyOf 5 = .ok (.sipush 512, 3) := by decide +kernel
theorem dX6_manyOf_8 : decode cX6_manyOf 8 = .ok (.if_icmp .ge 32, 3) := by decide +kernel
theorem dX6_manyOf_11 : decode cX6_manyOf 11 = .ok (.aload_n 0, 1) := by decide +kernel
theorem dX6_manyOf_12 : decode cX6_manyOf 12 = .ok (.getfield 19, 3) := by decide +kernel
theorem dX6_manyOf_15 : decode cX6_manyOf 15 = .ok (.sipush 512, 3) := by decide +kernel
theorem dX6_manyOf_18 : decode cX6_manyOf 18 = .ok (.iload_n 1, 1) := by decide +kernel
theorem dX6_manyOf_19 : decode cX6_manyOf 19 = .ok (.imul, 1) := by decide +kernel
theorem dX6_manyOf_20 : decode cX6_manyOf 20 = .ok (.iload_n 3, 1) := by decide +kernel
theorem dX6_manyOf_21 : decode cX6_manyOf 21 = .ok (.iadd, 1) := by decide +kernel
theorem dX6_manyOf_22 : decode cX6_manyOf 22 = .ok (.iaload, 1) := by decide +kernel
theorem dX6_manyOf_23 : decode cX6_manyOf 23 = .ok (.ifCond .le 9, 3) := by decide +kernel
theorem dX6_manyOf_26 : decode cX6_manyOf 26 = .ok (.iload_n 2, 1) := by decide +kernel
theorem dX6_manyOf_27 : decode cX6_manyOf 27 = .ok (.iconst 1, 1) := by decide +kernel
theorem dX6_manyOf_28 : decode cX6_manyOf 28 = .ok (.iadd, 1) := by decide +kernel
theorem dX6_manyOf_29 : decode cX6_manyOf 29 = .ok (.goto 4, 3) := by decide +kernel
theorem dX6_manyOf_32 : decode cX6_manyOf 32 = .ok (.iload_n 2, 1) := by decide +kernel
theorem dX6_manyOf_33 : decode cX6_manyOf 33 = .ok (.istore_n 2, 1) := by decide +kernel
theorem dX6_manyOf_34 : decode cX6_manyOf 34 = .ok (.iinc 3 1, 3) := by decide +kernel
theorem dX6_manyOf_37 : decode cX6_manyOf 37 = .ok (.goto (-33), 3) := by decide +kernel
theorem dX6_manyOf_40 : decode cX6_manyOf 40 = .ok (.iload_n 2, 1) := by decide +kernel
theorem dX6_manyOf_41 : decode cX6_manyOf 41 = .ok (.ireturn, 1) := by decide +kernel
theorem dX6_many_0 : decode cX6_many 0 = .ok (.aload_n 0, 1) := by decide +kernel
theorem dX6_many_1 : decode cX6_many 1 = .ok (.iload_n 1, 1) := by decide +kernel
theorem dX6_many_2 : decode cX6_many 2 = .ok (.invokestatic 49, 3) := by decide +kernel
theorem dX6_many_5 : decode cX6_many 5 = .ok (.ifCond .ne 7, 3) := by decide +kernel
theorem dX6_many_8 : decode cX6_many 8 = .ok (.iconst 1, 1) := by decide +kernel
theorem dX6_many_9 : decode cX6_many 9 = .ok (.goto 4, 3) := by decide +kernel
theorem dX6_many_12 : decode cX6_many 12 = .ok (.iconst 0, 1) := by decide +kernel
theorem dX6_many_13 : decode cX6_many 13 = .ok (.iconst 0, 1) := by decide +kernel
theorem dX6_many_14 : decode cX6_many 14 = .ok (.iconst 0, 1) := by decide +kernel
theorem dX6_many_15 : decode cX6_many 15 = .ok (.invokevirtual 56, 3) := by decide +kernel
theorem dX6_many_18 : decode cX6_many 18 = .ok (.ifCond .eq 5, 3) := by decide +kernel
theorem dX6_many_21 : decode cX6_many 21 = .ok (.iconst 0, 1) := by decide +kernel
theorem dX6_many_22 : decode cX6_many 22 = .ok (.ireturn, 1) := by decide +kernel
theorem dX6_many_23 : decode cX6_many 23 = .ok (.aload_n 0, 1) := by decide +kernel
theorem dX6_many_24 : decode cX6_many 24 = .ok (.invokevirtual 95, 3) := by decide +kernel
theorem dX6_many_27 : decode cX6_many 27 = .ok (.aload_n 0, 1) := by decide +kernel
theorem dX6_many_28 : decode cX6_many 28 = .ok (.iload_n 1, 1) := by decide +kernel
theorem dX6_many_29 : decode cX6_many 29 = .ok (.invokevirtual 98, 3) := by decide +kernel
theorem dX6_many_32 : decode cX6_many 32 = .ok (.ireturn, 1) := by decide +kernel
theorem dX6_count_0 : decode cX6_count 0 = .ok (.iload_n 1, 1) := by decide +kernel
theorem dX6_count_1 : decode cX6_count 1 = .ok (.invokestatic 49, 3) := by decide +kernel
theorem dX6_count_4 : decode cX6_count 4 = .ok (.istore_n 3, 1) := by decide +kernel
theorem dX6_count_5 : decode cX6_count 5 = .ok (.iload_n 3, 1) := by decide +kernel
theorem dX6_count_6 : decode cX6_count 6 = .ok (.ifCond .eq 7, 3) := by decide +kernel
theorem dX6_count_9 : decode cX6_count 9 = .ok (.aload_n 0, 1) := by decide +kernel
theorem dX6_count_10 : decode cX6_count 10 = .ok (.invokevirtual 95, 3) := by decide +kernel
theorem dX6_count_13 : decode cX6_count 13 = .ok (.aload_n 0, 1) := by decide +kernel
theorem dX6_count_14 : decode cX6_count 14 = .ok (.iload_n 3, 1) := by decide +kernel
theorem dX6_count_15 : decode cX6_count 15 = .ok (.ifCond .ne 7, 3) := by decide +kernel
theorem dX6_count_18 : decode cX6_count 18 = .ok (.iconst 1, 1) := by decide +kernel
theorem dX6_count_19 : decode cX6_count 19 = .ok (.goto 4, 3) := by decide +kernel
theorem dX6_count_22 : decode cX6_count 22 = .ok (.iconst 0, 1) := by decide +kernel
theorem dX6_count_23 : decode cX6_count 23 = .ok (.iload_n 3, 1) := by decide +kernel
theorem dX6_count_24 : decode cX6_count 24 = .ok (.ifCond .eq 30, 3) := by decide +kernel
theorem dX6_count_27 : decode cX6_count 27 = .ok (.iload_n 2, 1) := by decide +kernel
theorem dX6_count_28 : decode cX6_count 28 = .ok (.iconst 0, 1) := by decide +kernel
theorem dX6_count_29 : decode cX6_count 29 = .ok (.aload_n 0, 1) := by decide +kernel
theorem dX6_count_30 : decode cX6_count 30 = .ok (.iload_n 3, 1) := by decide +kernel
theorem dX6_count_31 : decode cX6_count 31 = .ok (.ifCond .eq 7, 3) := by decide +kernel
theorem dX6_count_34 : decode cX6_count 34 = .ok (.iload_n 1, 1) := by decide +kernel
theorem dX6_count_35 : decode cX6_count 35 = .ok (.goto 4, 3) := by decide +kernel
theorem dX6_count_38 : decode cX6_count 38 = .ok (.iconst 0, 1) := by decide +kernel
theorem dX6_count_39 : decode cX6_count 39 = .ok (.invokevirtual 98, 3) := by decide +kernel
theorem dX6_count_42 : decode cX6_count 42 = .ok (.iconst 1, 1) := by decide +kernel
theorem dX6_count_43 : decode cX6_count 43 = .ok (.isub, 1) := by decide +kernel
theorem dX6_count_44 : decode cX6_count 44 = .ok (.invokestatic 45, 3) := by decide +kernel
theorem dX6_count_47 : decode cX6_count 47 = .ok (.ifCond .ne 7, 3) := by decide +kernel
theorem dX6_count_50 : decode cX6_count 50 = .ok (.iconst 1, 1) := by decide +kernel
theorem dX6_count_51 : decode cX6_count 51 = .ok (.goto 4, 3) := by decide +kernel
theorem dX6_count_54 : decode cX6_count 54 = .ok (.iconst 0, 1) := by decide +kernel
theorem dX6_count_55 : decode cX6_count 55 = .ok (.iconst 0, 1) := by decide +kernel
theorem dX6_count_56 : decode cX6_count 56 = .ok (.invokevirtual 56, 3) := by decide +kernel
theorem dX6_count_59 : decode cX6_count 59 = .ok (.ifCond .eq 5, 3) := by decide +kernel
theorem dX6_count_62 : decode cX6_count 62 = .ok (.iconst 0, 1) := by decide +kernel
theorem dX6_count_63 : decode cX6_count 63 = .ok (.ireturn, 1) := by decide +kernel
theorem dX6_count_64 : decode cX6_count 64 = .ok (.iconst 0, 1) := by decide +kernel
theorem dX6_count_65 : decode cX6_count 65 = .ok (.istore 4, 2) := by decide +kernel
theorem dX6_count_67 : decode cX6_count 67 = .ok (.iload_n 2, 1) := by decide +kernel
theorem dX6_count_68 : decode cX6_count 68 = .ok (.istore 5, 2) := by decide +kernel
theorem dX6_count_70 : decode cX6_count 70 = .ok (.iload 5, 2) := by decide +kernel
theorem dX6_count_72 : decode cX6_count 72 = .ok (.ifCond .gt 19, 3) := by decide +kernel
theorem dX6_count_75 : decode cX6_count 75 = .ok (.aload_n 0, 1) := by decide +kernel
theorem dX6_count_76 : decode cX6_count 76 = .ok (.getfield 19, 3) := by decide +kernel
theorem dX6_count_79 : decode cX6_count 79 = .ok (.sipush 512, 3) := by decide +kernel
theorem dX6_count_82 : decode cX6_count 82 = .ok (.iload_n 1, 1) := by decide +kernel
theorem dX6_count_83 : decode cX6_count 83 = .ok (.imul, 1) := by decide +kernel
theorem dX6_count_84 : decode cX6_count 84 = .ok (.iload 4, 2) := by decide +kernel
theorem dX6_count_86 : decode cX6_count 86 = .ok (.iadd, 1) := by decide +kernel
theorem dX6_count_87 : decode cX6_count 87 = .ok (.iaload, 1) := by decide +kernel
theorem dX6_count_88 : decode cX6_count 88 = .ok (.ifCond .ne 36, 3) := by decide +kernel
theorem dX6_count_91 : decode cX6_count 91 = .ok (.aload_n 0, 1) := by decide +kernel
theorem dX6_count_92 : decode cX6_count 92 = .ok (.getfield 19, 3) := by decide +kernel
theorem dX6_count_95 : decode cX6_count 95 = .ok (.sipush 512, 3) := by decide +kernel
theorem dX6_count_98 : decode cX6_count 98 = .ok (.iload_n 1, 1) := by decide +kernel
theorem dX6_count_99 : decode cX6_count 99 = .ok (.imul, 1) := by decide +kernel
theorem dX6_count_100 : decode cX6_count 100 = .ok (.iload 4, 2) := by decide +kernel
theorem dX6_count_102 : decode cX6_count 102 = .ok (.iadd, 1) := by decide +kernel
theorem dX6_count_103 : decode cX6_count 103 = .ok (.iaload, 1) := by decide +kernel
theorem dX6_count_104 : decode cX6_count 104 = .ok (.ifCond .le 10, 3) := by decide +kernel
theorem dX6_count_107 : decode cX6_count 107 = .ok (.iload 5, 2) := by decide +kernel
theorem dX6_count_109 : decode cX6_count 109 = .ok (.iconst 1, 1) := by decide +kernel
theorem dX6_count_110 : decode cX6_count 110 = .ok (.isub, 1) := by decide +kernel
theorem dX6_count_111 : decode cX6_count 111 = .ok (.goto 5, 3) := by decide +kernel
theorem dX6_count_114 : decode cX6_count 114 = .ok (.iload 5, 2) := by decide +kernel
theorem dX6_count_116 : decode cX6_count 116 = .ok (.istore 5, 2) := by decide +kernel
theorem dX6_count_118 : decode cX6_count 118 = .ok (.iinc 4 1, 3) := by decide +kernel
theorem dX6_count_121 : decode cX6_count 121 = .ok (.goto (-51), 3) := by decide +kernel
theorem dX6_count_124 : decode cX6_count 124 = .ok (.iload 4, 2) := by decide +kernel
theorem dX6_count_126 : decode cX6_count 126 = .ok (.ireturn, 1) := by decide +kernel
theorem dX6_rootOf_0 : decode cX6_rootOf 0 = .ok (.aload_n 0, 1) := by decide +kernel
theorem dX6_rootOf_1 : decode cX6_rootOf 1 = .ok (.getfield 19, 3) := by decide +kernel
theorem dX6_rootOf_4 : decode cX6_rootOf 4 = .ok (.sipush 512, 3) := by decide +kernel
theorem dX6_rootOf_7 : decode cX6_rootOf 7 = .ok (.iload_n 1, 1) := by decide +kernel
theorem dX6_rootOf_8 : decode cX6_rootOf 8 = .ok (.imul, 1) := by decide +kernel
theorem dX6_rootOf_9 : decode cX6_rootOf 9 = .ok (.iload_n 2, 1) := by decide +kernel
theorem dX6_rootOf_10 : decode cX6_rootOf 10 = .ok (.iadd, 1) := by decide +kernel
theorem dX6_rootOf_11 : decode cX6_rootOf 11 = .ok (.iaload, 1) := by decide +kernel
theorem dX6_rootOf_12 : decode cX6_rootOf 12 = .ok (.istore_n 3, 1) := by decide +kernel
theorem dX6_rootOf_13 : decode cX6_rootOf 13 = .ok (.iconst 0, 1) := by decide +kernel
theorem dX6_rootOf_14 : decode cX6_rootOf 14 = .ok (.istore 4, 2) := by decide +kernel
theorem dX6_rootOf_16 : decode cX6_rootOf 16 = .ok (.iload 4, 2) := by decide +kernel
theorem dX6_rootOf_18 : decode cX6_rootOf 18 = .ok (.aload_n 0, 1) := by decide +kernel
theorem dX6_rootOf_19 : decode cX6_rootOf 19 = .ok (.getfield 53, 3) := by decide +kernel
theorem dX6_rootOf_22 : decode cX6_rootOf 22 = .ok (.if_icmp .ge 60, 3) := by decide +kernel
theorem dX6_rootOf_25 : decode cX6_rootOf 25 = .ok (.iload_n 2, 1) := by decide +kernel
theorem dX6_rootOf_26 : decode cX6_rootOf 26 = .ok (.aload_n 0, 1) := by decide +kernel
theorem dX6_rootOf_27 : decode cX6_rootOf 27 = .ok (.iload 4, 2) := by decide +kernel
theorem dX6_rootOf_29 : decode cX6_rootOf 29 = .ok (.invokevirtual 84, 3) := by decide +kernel
theorem dX6_rootOf_32 : decode cX6_rootOf 32 = .ok (.invokestatic 101, 3) := by decide +kernel
theorem dX6_rootOf_35 : decode cX6_rootOf 35 = .ok (.istore 5, 2) := by decide +kernel
theorem dX6_rootOf_37 : decode cX6_rootOf 37 = .ok (.aload_n 0, 1) := by decide +kernel
theorem dX6_rootOf_38 : decode cX6_rootOf 38 = .ok (.getfield 7, 3) := by decide +kernel
theorem dX6_rootOf_41 : decode cX6_rootOf 41 = .ok (.iload 4, 2) := by decide +kernel
theorem dX6_rootOf_43 : decode cX6_rootOf 43 = .ok (.iaload, 1) := by decide +kernel
theorem dX6_rootOf_44 : decode cX6_rootOf 44 = .ok (.iload_n 1, 1) := by decide +kernel
theorem dX6_rootOf_45 : decode cX6_rootOf 45 = .ok (.if_icmp .ne 31, 3) := by decide +kernel
theorem dX6_rootOf_48 : decode cX6_rootOf 48 = .ok (.iload 5, 2) := by decide +kernel
theorem dX6_rootOf_50 : decode cX6_rootOf 50 = .ok (.ifCond .ge 6, 3) := by decide +kernel
theorem dX6_rootOf_53 : decode cX6_rootOf 53 = .ok (.goto 23, 3) := by decide +kernel
theorem dX6_rootOf_56 : decode cX6_rootOf 56 = .ok (.aload_n 0, 1) := by decide +kernel
theorem dX6_rootOf_57 : decode cX6_rootOf 57 = .ok (.iload 4, 2) := by decide +kernel
theorem dX6_rootOf_59 : decode cX6_rootOf 59 = .ok (.iload_n 3, 1) := by decide +kernel
theorem dX6_rootOf_60 : decode cX6_rootOf 60 = .ok (.invokevirtual 81, 3) := by decide +kernel
theorem dX6_rootOf_63 : decode cX6_rootOf 63 = .ok (.aload_n 0, 1) := by decide +kernel
theorem dX6_rootOf_64 : decode cX6_rootOf 64 = .ok (.getfield 22, 3) := by decide +kernel
theorem dX6_rootOf_67 : decode cX6_rootOf 67 = .ok (.iload 5, 2) := by decide +kernel
theorem dX6_rootOf_69 : decode cX6_rootOf 69 = .ok (.baload, 1) := by decide +kernel
theorem dX6_rootOf_70 : decode cX6_rootOf 70 = .ok (.ifCond .eq 6, 3) := by decide +kernel
theorem dX6_rootOf_73 : decode cX6_rootOf 73 = .ok (.iload 4, 2) := by decide +kernel
theorem dX6_rootOf_75 : decode cX6_rootOf 75 = .ok (.ireturn, 1) := by decide +kernel
theorem dX6_rootOf_76 : decode cX6_rootOf 76 = .ok (.iinc 4 1, 3) := by decide +kernel
theorem dX6_rootOf_79 : decode cX6_rootOf 79 = .ok (.goto (-63), 3) := by decide +kernel
theorem dX6_rootOf_82 : decode cX6_rootOf 82 = .ok (.iconst (-1), 1) := by decide +kernel
theorem dX6_rootOf_83 : decode cX6_rootOf 83 = .ok (.ireturn, 1) := by decide +kernel
theorem dX6_spread_0 : decode cX6_spread 0 = .ok (.aload_n 0, 1) := by decide +kernel
theorem dX6_spread_1 : decode cX6_spread 1 = .ok (.getfield 19, 3) := by decide +kernel
theorem dX6_spread_4 : decode cX6_spread 4 = .ok (.sipush 512, 3) := by decide +kernel
theorem dX6_spread_7 : decode cX6_spread 7 = .ok (.aload_n 0, 1) := by decide +kernel
theorem dX6_spread_8 : decode cX6_spread 8 = .ok (.getfield 7, 3) := by decide +kernel
theorem dX6_spread_11 : decode cX6_spread 11 = .ok (.iload_n 1, 1) := by decide +kernel
theorem dX6_spread_12 : decode cX6_spread 12 = .ok (.iaload, 1) := by decide +kernel
theorem dX6_spread_13 : decode cX6_spread 13 = .ok (.imul, 1) := by decide +kernel
theorem dX6_spread_14 : decode cX6_spread 14 = .ok (.iload_n 2, 1) := by decide +kernel
theorem dX6_spread_15 : decode cX6_spread 15 = .ok (.iadd, 1) := by decide +kernel
theorem dX6_spread_16 : decode cX6_spread 16 = .ok (.iaload, 1) := by decide +kernel
theorem dX6_spread_17 : decode cX6_spread 17 = .ok (.istore_n 3, 1) := by decide +kernel
theorem dX6_spread_18 : decode cX6_spread 18 = .ok (.iload_n 2, 1) := by decide +kernel
theorem dX6_spread_19 : decode cX6_spread 19 = .ok (.aload_n 0, 1) := by decide +kernel
theorem dX6_spread_20 : decode cX6_spread 20 = .ok (.iload_n 1, 1) := by decide +kernel
theorem dX6_spread_21 : decode cX6_spread 21 = .ok (.invokevirtual 84, 3) := by decide +kernel
theorem dX6_spread_24 : decode cX6_spread 24 = .ok (.invokestatic 101, 3) := by decide +kernel
theorem dX6_spread_27 : decode cX6_spread 27 = .ok (.istore 4, 2) := by decide +kernel
theorem dX6_spread_29 : decode cX6_spread 29 = .ok (.aload_n 0, 1) := by decide +kernel
theorem dX6_spread_30 : decode cX6_spread 30 = .ok (.getfield 104, 3) := by decide +kernel
theorem dX6_spread_33 : decode cX6_spread 33 = .ok (.istore 5, 2) := by decide +kernel
theorem dX6_spread_35 : decode cX6_spread 35 = .ok (.iconst 0, 1) := by decide +kernel
theorem dX6_spread_36 : decode cX6_spread 36 = .ok (.istore 6, 2) := by decide +kernel
theorem dX6_spread_38 : decode cX6_spread 38 = .ok (.iload 6, 2) := by decide +kernel
theorem dX6_spread_40 : decode cX6_spread 40 = .ok (.iconst 4, 1) := by decide +kernel
theorem dX6_spread_41 : decode cX6_spread 41 = .ok (.if_icmp .ge 125, 3) := by decide +kernel
theorem dX6_spread_44 : decode cX6_spread 44 = .ok (.aload_n 0, 1) := by decide +kernel
theorem dX6_spread_45 : decode cX6_spread 45 = .ok (.getfield 13, 3) := by decide +kernel
theorem dX6_spread_48 : decode cX6_spread 48 = .ok (.iconst 4, 1) := by decide +kernel
theorem dX6_spread_49 : decode cX6_spread 49 = .ok (.iload_n 1, 1) := by decide +kernel
theorem dX6_spread_50 : decode cX6_spread 50 = .ok (.imul, 1) := by decide +kernel
theorem dX6_spread_51 : decode cX6_spread 51 = .ok (.iload 6, 2) := by decide +kernel
theorem dX6_spread_53 : decode cX6_spread 53 = .ok (.iadd, 1) := by decide +kernel
theorem dX6_spread_54 : decode cX6_spread 54 = .ok (.iaload, 1) := by decide +kernel
theorem dX6_spread_55 : decode cX6_spread 55 = .ok (.istore 7, 2) := by decide +kernel
theorem dX6_spread_57 : decode cX6_spread 57 = .ok (.iload 7, 2) := by decide +kernel
theorem dX6_spread_59 : decode cX6_spread 59 = .ok (.invokestatic 49, 3) := by decide +kernel
theorem dX6_spread_62 : decode cX6_spread 62 = .ok (.ifCond .ne 6, 3) := by decide +kernel
theorem dX6_spread_65 : decode cX6_spread 65 = .ok (.goto 95, 3) := by decide +kernel
theorem dX6_spread_68 : decode cX6_spread 68 = .ok (.iconst 0, 1) := by decide +kernel
theorem dX6_spread_69 : decode cX6_spread 69 = .ok (.istore 8, 2) := by decide +kernel
theorem dX6_spread_71 : decode cX6_spread 71 = .ok (.aload_n 0, 1) := by decide +kernel
theorem dX6_spread_72 : decode cX6_spread 72 = .ok (.iload 7, 2) := by decide +kernel
theorem dX6_spread_74 : decode cX6_spread 74 = .ok (.iload 8, 2) := by decide +kernel
theorem dX6_spread_76 : decode cX6_spread 76 = .ok (.iload_n 3, 1) := by decide +kernel
theorem dX6_spread_77 : decode cX6_spread 77 = .ok (.invokevirtual 68, 3) := by decide +kernel
theorem dX6_spread_80 : decode cX6_spread 80 = .ok (.ifCond .eq 37, 3) := by decide +kernel
theorem dX6_spread_83 : decode cX6_spread 83 = .ok (.iload 4, 2) := by decide +kernel
theorem dX6_spread_85 : decode cX6_spread 85 = .ok (.iload 8, 2) := by decide +kernel
theorem dX6_spread_87 : decode cX6_spread 87 = .ok (.invokestatic 101, 3) := by decide +kernel
theorem dX6_spread_90 : decode cX6_spread 90 = .ok (.ifCond .lt 27, 3) := by decide +kernel
theorem dX6_spread_93 : decode cX6_spread 93 = .ok (.aload_n 0, 1) := by decide +kernel
theorem dX6_spread_94 : decode cX6_spread 94 = .ok (.getfield 22, 3) := by decide +kernel
theorem dX6_spread_97 : decode cX6_spread 97 = .ok (.sipush 512, 3) := by decide +kernel
theorem dX6_spread_100 : decode cX6_spread 100 = .ok (.iload 6, 2) := by decide +kernel
theorem dX6_spread_102 : decode cX6_spread 102 = .ok (.iconst 1, 1) := by decide +kernel
theorem dX6_spread_103 : decode cX6_spread 103 = .ok (.iadd, 1) := by decide +kernel
theorem dX6_spread_104 : decode cX6_spread 104 = .ok (.imul, 1) := by decide +kernel
theorem dX6_spread_105 : decode cX6_spread 105 = .ok (.iload 4, 2) := by decide +kernel
theorem dX6_spread_107 : decode cX6_spread 107 = .ok (.iload 8, 2) := by decide +kernel
theorem dX6_spread_109 : decode cX6_spread 109 = .ok (.invokestatic 101, 3) := by decide +kernel
theorem dX6_spread_112 : decode cX6_spread 112 = .ok (.iadd, 1) := by decide +kernel
theorem dX6_spread_113 : decode cX6_spread 113 = .ok (.baload, 1) := by decide +kernel
theorem dX6_spread_114 : decode cX6_spread 114 = .ok (.ifCond .ne 9, 3) := by decide +kernel
theorem dX6_spread_117 : decode cX6_spread 117 = .ok (.iinc 8 1, 3) := by decide +kernel
theorem dX6_spread_120 : decode cX6_spread 120 = .ok (.goto (-49), 3) := by decide +kernel
theorem dX6_spread_123 : decode cX6_spread 123 = .ok (.iload 4, 2) := by decide +kernel
theorem dX6_spread_125 : decode cX6_spread 125 = .ok (.iload 8, 2) := by decide +kernel
theorem dX6_spread_127 : decode cX6_spread 127 = .ok (.invokestatic 101, 3) := by decide +kernel
theorem dX6_spread_130 : decode cX6_spread 130 = .ok (.istore 4, 2) := by decide +kernel
theorem dX6_spread_132 : decode cX6_spread 132 = .ok (.aload_n 0, 1) := by decide +kernel
theorem dX6_spread_133 : decode cX6_spread 133 = .ok (.getfield 39, 3) := by decide +kernel
theorem dX6_spread_136 : decode cX6_spread 136 = .ok (.aload_n 0, 1) := by decide +kernel
theorem dX6_spread_137 : decode cX6_spread 137 = .ok (.getfield 104, 3) := by decide +kernel
theorem dX6_spread_140 : decode cX6_spread 140 = .ok (.sipush 512, 3) := by decide +kernel
theorem dX6_spread_143 : decode cX6_spread 143 = .ok (.iload 7, 2) := by decide +kernel
theorem dX6_spread_145 : decode cX6_spread 145 = .ok (.imul, 1) := by decide +kernel
theorem dX6_spread_146 : decode cX6_spread 146 = .ok (.iload 8, 2) := by decide +kernel
theorem dX6_spread_148 : decode cX6_spread 148 = .ok (.iadd, 1) := by decide +kernel
theorem dX6_spread_149 : decode cX6_spread 149 = .ok (.iastore, 1) := by decide +kernel
theorem dX6_spread_150 : decode cX6_spread 150 = .ok (.aload_n 0, 1) := by decide +kernel
theorem dX6_spread_151 : decode cX6_spread 151 = .ok (.dup, 1) := by decide +kernel
theorem dX6_spread_152 : decode cX6_spread 152 = .ok (.getfield 104, 3) := by decide +kernel
theorem dX6_spread_155 : decode cX6_spread 155 = .ok (.iconst 1, 1) := by decide +kernel
theorem dX6_spread_156 : decode cX6_spread 156 = .ok (.iadd, 1) := by decide +kernel
theorem dX6_spread_157 : decode cX6_spread 157 = .ok (.putfield 104, 3) := by decide +kernel
theorem dX6_spread_160 : decode cX6_spread 160 = .ok (.iinc 6 1, 3) := by decide +kernel
theorem dX6_spread_163 : decode cX6_spread 163 = .ok (.goto (-125), 3) := by decide +kernel
theorem dX6_spread_166 : decode cX6_spread 166 = .ok (.iconst 0, 1) := by decide +kernel
theorem dX6_spread_167 : decode cX6_spread 167 = .ok (.istore 6, 2) := by decide +kernel
theorem dX6_spread_169 : decode cX6_spread 169 = .ok (.iload 5, 2) := by decide +kernel
theorem dX6_spread_171 : decode cX6_spread 171 = .ok (.iload 6, 2) := by decide +kernel
theorem dX6_spread_173 : decode cX6_spread 173 = .ok (.iadd, 1) := by decide +kernel
theorem dX6_spread_174 : decode cX6_spread 174 = .ok (.aload_n 0, 1) := by decide +kernel
theorem dX6_spread_175 : decode cX6_spread 175 = .ok (.getfield 104, 3) := by decide +kernel
theorem dX6_spread_178 : decode cX6_spread 178 = .ok (.iconst 1, 1) := by decide +kernel
theorem dX6_spread_179 : decode cX6_spread 179 = .ok (.isub, 1) := by decide +kernel
theorem dX6_spread_180 : decode cX6_spread 180 = .ok (.iload 6, 2) := by decide +kernel
theorem dX6_spread_182 : decode cX6_spread 182 = .ok (.isub, 1) := by decide +kernel
theorem dX6_spread_183 : decode cX6_spread 183 = .ok (.if_icmp .ge 61, 3) := by decide +kernel
theorem dX6_spread_186 : decode cX6_spread 186 = .ok (.aload_n 0, 1) := by decide +kernel
theorem dX6_spread_187 : decode cX6_spread 187 = .ok (.getfield 39, 3) := by decide +kernel
theorem dX6_spread_190 : decode cX6_spread 190 = .ok (.iload 5, 2) := by decide +kernel
theorem dX6_spread_192 : decode cX6_spread 192 = .ok (.iload 6, 2) := by decide +kernel
theorem dX6_spread_194 : decode cX6_spread 194 = .ok (.iadd, 1) := by decide +kernel
theorem dX6_spread_195 : decode cX6_spread 195 = .ok (.iaload, 1) := by decide +kernel
theorem dX6_spread_196 : decode cX6_spread 196 = .ok (.istore 7, 2) := by decide +kernel
theorem dX6_spread_198 : decode cX6_spread 198 = .ok (.aload_n 0, 1) := by decide +kernel
theorem dX6_spread_199 : decode cX6_spread 199 = .ok (.getfield 39, 3) := by decide +kernel
theorem dX6_spread_202 : decode cX6_spread 202 = .ok (.iload 5, 2) := by decide +kernel
theorem dX6_spread_204 : decode cX6_spread 204 = .ok (.iload 6, 2) := by decide +kernel
theorem dX6_spread_206 : decode cX6_spread 206 = .ok (.iadd, 1) := by decide +kernel
theorem dX6_spread_207 : decode cX6_spread 207 = .ok (.aload_n 0, 1) := by decide +kernel
theorem dX6_spread_208 : decode cX6_spread 208 = .ok (.getfield 39, 3) := by decide +kernel
theorem dX6_spread_211 : decode cX6_spread 211 = .ok (.aload_n 0, 1) := by decide +kernel
theorem dX6_spread_212 : decode cX6_spread 212 = .ok (.getfield 104, 3) := by decide +kernel
theorem dX6_spread_215 : decode cX6_spread 215 = .ok (.iconst 1, 1) := by decide +kernel
theorem dX6_spread_216 : decode cX6_spread 216 = .ok (.isub, 1) := by decide +kernel
theorem dX6_spread_217 : decode cX6_spread 217 = .ok (.iload 6, 2) := by decide +kernel
theorem dX6_spread_219 : decode cX6_spread 219 = .ok (.isub, 1) := by decide +kernel
theorem dX6_spread_220 : decode cX6_spread 220 = .ok (.iaload, 1) := by decide +kernel
theorem dX6_spread_221 : decode cX6_spread 221 = .ok (.iastore, 1) := by decide +kernel
theorem dX6_spread_222 : decode cX6_spread 222 = .ok (.aload_n 0, 1) := by decide +kernel
theorem dX6_spread_223 : decode cX6_spread 223 = .ok (.getfield 39, 3) := by decide +kernel
theorem dX6_spread_226 : decode cX6_spread 226 = .ok (.aload_n 0, 1) := by decide +kernel
theorem dX6_spread_227 : decode cX6_spread 227 = .ok (.getfield 104, 3) := by decide +kernel
theorem dX6_spread_230 : decode cX6_spread 230 = .ok (.iconst 1, 1) := by decide +kernel
theorem dX6_spread_231 : decode cX6_spread 231 = .ok (.isub, 1) := by decide +kernel
theorem dX6_spread_232 : decode cX6_spread 232 = .ok (.iload 6, 2) := by decide +kernel
theorem dX6_spread_234 : decode cX6_spread 234 = .ok (.isub, 1) := by decide +kernel
theorem dX6_spread_235 : decode cX6_spread 235 = .ok (.iload 7, 2) := by decide +kernel
theorem dX6_spread_237 : decode cX6_spread 237 = .ok (.iastore, 1) := by decide +kernel
theorem dX6_spread_238 : decode cX6_spread 238 = .ok (.iinc 6 1, 3) := by decide +kernel
theorem dX6_spread_241 : decode cX6_spread 241 = .ok (.goto (-72), 3) := by decide +kernel
theorem dX6_spread_244 : decode cX6_spread 244 = .ok (.return_, 1) := by decide +kernel
theorem dX6_write_0 : decode cX6_write 0 = .ok (.aload_n 0, 1) := by decide +kernel
theorem dX6_write_1 : decode cX6_write 1 = .ok (.iconst 0, 1) := by decide +kernel
theorem dX6_write_2 : decode cX6_write 2 = .ok (.putfield 107, 3) := by decide +kernel
theorem dX6_write_5 : decode cX6_write 5 = .ok (.iconst 0, 1) := by decide +kernel
theorem dX6_write_6 : decode cX6_write 6 = .ok (.istore_n 3, 1) := by decide +kernel
theorem dX6_write_7 : decode cX6_write 7 = .ok (.iload_n 3, 1) := by decide +kernel
theorem dX6_write_8 : decode cX6_write 8 = .ok (.bipush 10, 2) := by decide +kernel
theorem dX6_write_10 : decode cX6_write 10 = .ok (.if_icmp .ge 16, 3) := by decide +kernel
theorem dX6_write_13 : decode cX6_write 13 = .ok (.aload_n 0, 1) := by decide +kernel
theorem dX6_write_14 : decode cX6_write 14 = .ok (.getfield 36, 3) := by decide +kernel
theorem dX6_write_17 : decode cX6_write 17 = .ok (.iload_n 3, 1) := by decide +kernel
theorem dX6_write_18 : decode cX6_write 18 = .ok (.iconst 0, 1) := by decide +kernel
theorem dX6_write_19 : decode cX6_write 19 = .ok (.iastore, 1) := by decide +kernel
theorem dX6_write_20 : decode cX6_write 20 = .ok (.iinc 3 1, 3) := by decide +kernel
theorem dX6_write_23 : decode cX6_write 23 = .ok (.goto (-16), 3) := by decide +kernel
theorem dX6_write_26 : decode cX6_write 26 = .ok (.aload_n 0, 1) := by decide +kernel
theorem dX6_write_27 : decode cX6_write 27 = .ok (.iconst 1, 1) := by decide +kernel
theorem dX6_write_28 : decode cX6_write 28 = .ok (.putfield 104, 3) := by decide +kernel
theorem dX6_write_31 : decode cX6_write 31 = .ok (.aload_n 0, 1) := by decide +kernel
theorem dX6_write_32 : decode cX6_write 32 = .ok (.getfield 39, 3) := by decide +kernel
theorem dX6_write_35 : decode cX6_write 35 = .ok (.iconst 0, 1) := by decide +kernel
theorem dX6_write_36 : decode cX6_write 36 = .ok (.sipush 512, 3) := by decide +kernel
theorem dX6_write_39 : decode cX6_write 39 = .ok (.iload_n 1, 1) := by decide +kernel
theorem dX6_write_40 : decode cX6_write 40 = .ok (.imul, 1) := by decide +kernel
theorem dX6_write_41 : decode cX6_write 41 = .ok (.iload_n 2, 1) := by decide +kernel
theorem dX6_write_42 : decode cX6_write 42 = .ok (.iadd, 1) := by decide +kernel
theorem dX6_write_43 : decode cX6_write 43 = .ok (.iastore, 1) := by decide +kernel
theorem dX6_write_44 : decode cX6_write 44 = .ok (.aload_n 0, 1) := by decide +kernel
theorem dX6_write_45 : decode cX6_write 45 = .ok (.getfield 104, 3) := by decide +kernel
theorem dX6_write_48 : decode cX6_write 48 = .ok (.ifCond .le 109, 3) := by decide +kernel
theorem dX6_write_51 : decode cX6_write 51 = .ok (.aload_n 0, 1) := by decide +kernel
theorem dX6_write_52 : decode cX6_write 52 = .ok (.dup, 1) := by decide +kernel
theorem dX6_write_53 : decode cX6_write 53 = .ok (.getfield 104, 3) := by decide +kernel
theorem dX6_write_56 : decode cX6_write 56 = .ok (.iconst 1, 1) := by decide +kernel
theorem dX6_write_57 : decode cX6_write 57 = .ok (.isub, 1) := by decide +kernel
theorem dX6_write_58 : decode cX6_write 58 = .ok (.putfield 104, 3) := by decide +kernel
theorem dX6_write_61 : decode cX6_write 61 = .ok (.aload_n 0, 1) := by decide +kernel
theorem dX6_write_62 : decode cX6_write 62 = .ok (.getfield 39, 3) := by decide +kernel
theorem dX6_write_65 : decode cX6_write 65 = .ok (.aload_n 0, 1) := by decide +kernel
theorem dX6_write_66 : decode cX6_write 66 = .ok (.getfield 104, 3) := by decide +kernel
theorem dX6_write_69 : decode cX6_write 69 = .ok (.iaload, 1) := by decide +kernel
theorem dX6_write_70 : decode cX6_write 70 = .ok (.istore_n 3, 1) := by decide +kernel
theorem dX6_write_71 : decode cX6_write 71 = .ok (.aload_n 0, 1) := by decide +kernel
theorem dX6_write_72 : decode cX6_write 72 = .ok (.iload_n 3, 1) := by decide +kernel
theorem dX6_write_73 : decode cX6_write 73 = .ok (.sipush 512, 3) := by decide +kernel
theorem dX6_write_76 : decode cX6_write 76 = .ok (.idiv, 1) := by decide +kernel
theorem dX6_write_77 : decode cX6_write 77 = .ok (.iload_n 3, 1) := by decide +kernel
theorem dX6_write_78 : decode cX6_write 78 = .ok (.sipush 512, 3) := by decide +kernel
theorem dX6_write_81 : decode cX6_write 81 = .ok (.irem, 1) := by decide +kernel
theorem dX6_write_82 : decode cX6_write 82 = .ok (.invokevirtual 110, 3) := by decide +kernel
theorem dX6_write_85 : decode cX6_write 85 = .ok (.istore 4, 2) := by decide +kernel
theorem dX6_write_87 : decode cX6_write 87 = .ok (.aload_n 0, 1) := by decide +kernel
theorem dX6_write_88 : decode cX6_write 88 = .ok (.getfield 107, 3) := by decide +kernel
theorem dX6_write_91 : decode cX6_write 91 = .ok (.sipush 500, 3) := by decide +kernel
theorem dX6_write_94 : decode cX6_write 94 = .ok (.if_icmp .eq 15, 3) := by decide +kernel
theorem dX6_write_97 : decode cX6_write 97 = .ok (.aload_n 0, 1) := by decide +kernel
theorem dX6_write_98 : decode cX6_write 98 = .ok (.getfield 36, 3) := by decide +kernel
theorem dX6_write_101 : decode cX6_write 101 = .ok (.iload 4, 2) := by decide +kernel
theorem dX6_write_103 : decode cX6_write 103 = .ok (.iaload, 1) := by decide +kernel
theorem dX6_write_104 : decode cX6_write 104 = .ok (.bipush 50, 2) := by decide +kernel
theorem dX6_write_106 : decode cX6_write 106 = .ok (.if_icmp .ne 5, 3) := by decide +kernel
theorem dX6_write_109 : decode cX6_write 109 = .ok (.iconst 0, 1) := by decide +kernel
theorem dX6_write_110 : decode cX6_write 110 = .ok (.ireturn, 1) := by decide +kernel
theorem dX6_write_111 : decode cX6_write 111 = .ok (.aload_n 0, 1) := by decide +kernel
theorem dX6_write_112 : decode cX6_write 112 = .ok (.getfield 33, 3) := by decide +kernel
theorem dX6_write_115 : decode cX6_write 115 = .ok (.aload_n 0, 1) := by decide +kernel
theorem dX6_write_116 : decode cX6_write 116 = .ok (.getfield 107, 3) := by decide +kernel
theorem dX6_write_119 : decode cX6_write 119 = .ok (.iload 4, 2) := by decide +kernel
theorem dX6_write_121 : decode cX6_write 121 = .ok (.iastore, 1) := by decide +kernel
theorem dX6_write_122 : decode cX6_write 122 = .ok (.aload_n 0, 1) := by decide +kernel
theorem dX6_write_123 : decode cX6_write 123 = .ok (.dup, 1) := by decide +kernel
theorem dX6_write_124 : decode cX6_write 124 = .ok (.getfield 107, 3) := by decide +kernel
theorem dX6_write_127 : decode cX6_write 127 = .ok (.iconst 1, 1) := by decide +kernel
theorem dX6_write_128 : decode cX6_write 128 = .ok (.iadd, 1) := by decide +kernel
theorem dX6_write_129 : decode cX6_write 129 = .ok (.putfield 107, 3) := by decide +kernel
theorem dX6_write_132 : decode cX6_write 132 = .ok (.aload_n 0, 1) := by decide +kernel
theorem dX6_write_133 : decode cX6_write 133 = .ok (.getfield 36, 3) := by decide +kernel
theorem dX6_write_136 : decode cX6_write 136 = .ok (.iload 4, 2) := by decide +kernel
theorem dX6_write_138 : decode cX6_write 138 = .ok (.dup2, 1) := by decide +kernel
theorem dX6_write_139 : decode cX6_write 139 = .ok (.iaload, 1) := by decide +kernel
theorem dX6_write_140 : decode cX6_write 140 = .ok (.iconst 1, 1) := by decide +kernel
theorem dX6_write_141 : decode cX6_write 141 = .ok (.iadd, 1) := by decide +kernel
theorem dX6_write_142 : decode cX6_write 142 = .ok (.iastore, 1) := by decide +kernel
theorem dX6_write_143 : decode cX6_write 143 = .ok (.aload_n 0, 1) := by decide +kernel
theorem dX6_write_144 : decode cX6_write 144 = .ok (.iload 4, 2) := by decide +kernel
theorem dX6_write_146 : decode cX6_write 146 = .ok (.iload_n 3, 1) := by decide +kernel
theorem dX6_write_147 : decode cX6_write 147 = .ok (.sipush 512, 3) := by decide +kernel
theorem dX6_write_150 : decode cX6_write 150 = .ok (.irem, 1) := by decide +kernel
theorem dX6_write_151 : decode cX6_write 151 = .ok (.invokevirtual 113, 3) := by decide +kernel
theorem dX6_write_154 : decode cX6_write 154 = .ok (.goto (-110), 3) := by decide +kernel
theorem dX6_write_157 : decode cX6_write 157 = .ok (.iconst 1, 1) := by decide +kernel
theorem dX6_write_158 : decode cX6_write 158 = .ok (.ireturn, 1) := by decide +kernel
theorem dX6_derive_0 : decode cX6_derive 0 = .ok (.iload_n 1, 1) := by decide +kernel
theorem dX6_derive_1 : decode cX6_derive 1 = .ok (.iload_n 2, 1) := by decide +kernel
theorem dX6_derive_2 : decode cX6_derive 2 = .ok (.iload_n 3, 1) := by decide +kernel
theorem dX6_derive_3 : decode cX6_derive 3 = .ok (.iload 4, 2) := by decide +kernel
theorem dX6_derive_5 : decode cX6_derive 5 = .ok (.invokestatic 91, 3) := by decide +kernel
theorem dX6_derive_8 : decode cX6_derive 8 = .ok (.istore 5, 2) := by decide +kernel
theorem dX6_derive_10 : decode cX6_derive 10 = .ok (.iload 5, 2) := by decide +kernel
theorem dX6_derive_12 : decode cX6_derive 12 = .ok (.ifCond .eq 7, 3) := by decide +kernel
theorem dX6_derive_15 : decode cX6_derive 15 = .ok (.aload_n 0, 1) := by decide +kernel
theorem dX6_derive_16 : decode cX6_derive 16 = .ok (.invokevirtual 95, 3) := by decide +kernel
theorem dX6_derive_19 : decode cX6_derive 19 = .ok (.iload_n 2, 1) := by decide +kernel
theorem dX6_derive_20 : decode cX6_derive 20 = .ok (.bipush 8, 2) := by decide +kernel
theorem dX6_derive_22 : decode cX6_derive 22 = .ok (.iload_n 3, 1) := by decide +kernel
theorem dX6_derive_23 : decode cX6_derive 23 = .ok (.imul, 1) := by decide +kernel
theorem dX6_derive_24 : decode cX6_derive 24 = .ok (.iadd, 1) := by decide +kernel
theorem dX6_derive_25 : decode cX6_derive 25 = .ok (.bipush 64, 2) := by decide +kernel
theorem dX6_derive_27 : decode cX6_derive 27 = .ok (.iload 4, 2) := by decide +kernel
theorem dX6_derive_29 : decode cX6_derive 29 = .ok (.imul, 1) := by decide +kernel
theorem dX6_derive_30 : decode cX6_derive 30 = .ok (.iadd, 1) := by decide +kernel
theorem dX6_derive_31 : decode cX6_derive 31 = .ok (.istore 6, 2) := by decide +kernel
theorem dX6_derive_33 : decode cX6_derive 33 = .ok (.iload 5, 2) := by decide +kernel
theorem dX6_derive_35 : decode cX6_derive 35 = .ok (.ifCond .eq 23, 3) := by decide +kernel
theorem dX6_derive_38 : decode cX6_derive 38 = .ok (.aload_n 0, 1) := by decide +kernel
theorem dX6_derive_39 : decode cX6_derive 39 = .ok (.getfield 19, 3) := by decide +kernel
theorem dX6_derive_42 : decode cX6_derive 42 = .ok (.sipush 512, 3) := by decide +kernel
theorem dX6_derive_45 : decode cX6_derive 45 = .ok (.iload_n 1, 1) := by decide +kernel
theorem dX6_derive_46 : decode cX6_derive 46 = .ok (.imul, 1) := by decide +kernel
theorem dX6_derive_47 : decode cX6_derive 47 = .ok (.iload 6, 2) := by decide +kernel
theorem dX6_derive_49 : decode cX6_derive 49 = .ok (.iadd, 1) := by decide +kernel
theorem dX6_derive_50 : decode cX6_derive 50 = .ok (.iaload, 1) := by decide +kernel
theorem dX6_derive_51 : decode cX6_derive 51 = .ok (.ifCond .le 7, 3) := by decide +kernel
theorem dX6_derive_54 : decode cX6_derive 54 = .ok (.iconst 1, 1) := by decide +kernel
theorem dX6_derive_55 : decode cX6_derive 55 = .ok (.goto 4, 3) := by decide +kernel
theorem dX6_derive_58 : decode cX6_derive 58 = .ok (.iconst 0, 1) := by decide +kernel
theorem dX6_derive_59 : decode cX6_derive 59 = .ok (.istore 7, 2) := by decide +kernel
theorem dX6_derive_61 : decode cX6_derive 61 = .ok (.aload_n 0, 1) := by decide +kernel
theorem dX6_derive_62 : decode cX6_derive 62 = .ok (.iload 5, 2) := by decide +kernel
theorem dX6_derive_64 : decode cX6_derive 64 = .ok (.ifCond .ne 7, 3) := by decide +kernel
theorem dX6_derive_67 : decode cX6_derive 67 = .ok (.iconst 1, 1) := by decide +kernel
theorem dX6_derive_68 : decode cX6_derive 68 = .ok (.goto 4, 3) := by decide +kernel
theorem dX6_derive_71 : decode cX6_derive 71 = .ok (.iconst 0, 1) := by decide +kernel
theorem dX6_derive_72 : decode cX6_derive 72 = .ok (.iload 7, 2) := by decide +kernel
theorem dX6_derive_74 : decode cX6_derive 74 = .ok (.ifCond .ne 7, 3) := by decide +kernel
theorem dX6_derive_77 : decode cX6_derive 77 = .ok (.iconst 1, 1) := by decide +kernel
theorem dX6_derive_78 : decode cX6_derive 78 = .ok (.goto 4, 3) := by decide +kernel
theorem dX6_derive_81 : decode cX6_derive 81 = .ok (.iconst 0, 1) := by decide +kernel
theorem dX6_derive_82 : decode cX6_derive 82 = .ok (.iload 7, 2) := by decide +kernel
theorem dX6_derive_84 : decode cX6_derive 84 = .ok (.ifCond .eq 17, 3) := by decide +kernel
theorem dX6_derive_87 : decode cX6_derive 87 = .ok (.aload_n 0, 1) := by decide +kernel
theorem dX6_derive_88 : decode cX6_derive 88 = .ok (.iload_n 1, 1) := by decide +kernel
theorem dX6_derive_89 : decode cX6_derive 89 = .ok (.iload 6, 2) := by decide +kernel
theorem dX6_derive_91 : decode cX6_derive 91 = .ok (.invokevirtual 116, 3) := by decide +kernel
theorem dX6_derive_94 : decode cX6_derive 94 = .ok (.ifCond .ne 7, 3) := by decide +kernel
theorem dX6_derive_97 : decode cX6_derive 97 = .ok (.iconst 1, 1) := by decide +kernel
theorem dX6_derive_98 : decode cX6_derive 98 = .ok (.goto 4, 3) := by decide +kernel
theorem dX6_derive_101 : decode cX6_derive 101 = .ok (.iconst 0, 1) := by decide +kernel
theorem dX6_derive_102 : decode cX6_derive 102 = .ok (.invokevirtual 56, 3) := by decide +kernel
theorem dX6_derive_105 : decode cX6_derive 105 = .ok (.ifCond .eq 5, 3) := by decide +kernel
theorem dX6_derive_108 : decode cX6_derive 108 = .ok (.iconst 0, 1) := by decide +kernel
theorem dX6_derive_109 : decode cX6_derive 109 = .ok (.ireturn, 1) := by decide +kernel
theorem dX6_derive_110 : decode cX6_derive 110 = .ok (.aload_n 0, 1) := by decide +kernel
theorem dX6_derive_111 : decode cX6_derive 111 = .ok (.aload_n 0, 1) := by decide +kernel
theorem dX6_derive_112 : decode cX6_derive 112 = .ok (.getfield 107, 3) := by decide +kernel
theorem dX6_derive_115 : decode cX6_derive 115 = .ok (.putfield 26, 3) := by decide +kernel
theorem dX6_derive_118 : decode cX6_derive 118 = .ok (.iconst 0, 1) := by decide +kernel
theorem dX6_derive_119 : decode cX6_derive 119 = .ok (.istore 8, 2) := by decide +kernel
theorem dX6_derive_121 : decode cX6_derive 121 = .ok (.iload 8, 2) := by decide +kernel
theorem dX6_derive_123 : decode cX6_derive 123 = .ok (.aload_n 0, 1) := by decide +kernel
theorem dX6_derive_124 : decode cX6_derive 124 = .ok (.getfield 26, 3) := by decide +kernel
theorem dX6_derive_127 : decode cX6_derive 127 = .ok (.if_icmp .ge 23, 3) := by decide +kernel
theorem dX6_derive_130 : decode cX6_derive 130 = .ok (.aload_n 0, 1) := by decide +kernel
theorem dX6_derive_131 : decode cX6_derive 131 = .ok (.getfield 30, 3) := by decide +kernel
theorem dX6_derive_134 : decode cX6_derive 134 = .ok (.iload 8, 2) := by decide +kernel
theorem dX6_derive_136 : decode cX6_derive 136 = .ok (.aload_n 0, 1) := by decide +kernel
theorem dX6_derive_137 : decode cX6_derive 137 = .ok (.getfield 33, 3) := by decide +kernel
theorem dX6_derive_140 : decode cX6_derive 140 = .ok (.iload 8, 2) := by decide +kernel
theorem dX6_derive_142 : decode cX6_derive 142 = .ok (.iaload, 1) := by decide +kernel
theorem dX6_derive_143 : decode cX6_derive 143 = .ok (.iastore, 1) := by decide +kernel
theorem dX6_derive_144 : decode cX6_derive 144 = .ok (.iinc 8 1, 3) := by decide +kernel
theorem dX6_derive_147 : decode cX6_derive 147 = .ok (.goto (-26), 3) := by decide +kernel
theorem dX6_derive_150 : decode cX6_derive 150 = .ok (.iconst 0, 1) := by decide +kernel
theorem dX6_derive_151 : decode cX6_derive 151 = .ok (.istore 8, 2) := by decide +kernel
theorem dX6_derive_153 : decode cX6_derive 153 = .ok (.iload 8, 2) := by decide +kernel
theorem dX6_derive_155 : decode cX6_derive 155 = .ok (.bipush 10, 2) := by decide +kernel
theorem dX6_derive_157 : decode cX6_derive 157 = .ok (.if_icmp .ge 23, 3) := by decide +kernel
theorem dX6_derive_160 : decode cX6_derive 160 = .ok (.aload_n 0, 1) := by decide +kernel
theorem dX6_derive_161 : decode cX6_derive 161 = .ok (.getfield 16, 3) := by decide +kernel
theorem dX6_derive_164 : decode cX6_derive 164 = .ok (.iload 8, 2) := by decide +kernel
theorem dX6_derive_166 : decode cX6_derive 166 = .ok (.aload_n 0, 1) := by decide +kernel
theorem dX6_derive_167 : decode cX6_derive 167 = .ok (.getfield 36, 3) := by decide +kernel
theorem dX6_derive_170 : decode cX6_derive 170 = .ok (.iload 8, 2) := by decide +kernel
theorem dX6_derive_172 : decode cX6_derive 172 = .ok (.iaload, 1) := by decide +kernel
theorem dX6_derive_173 : decode cX6_derive 173 = .ok (.iastore, 1) := by decide +kernel
theorem dX6_derive_174 : decode cX6_derive 174 = .ok (.iinc 8 1, 3) := by decide +kernel
theorem dX6_derive_177 : decode cX6_derive 177 = .ok (.goto (-24), 3) := by decide +kernel
theorem dX6_derive_180 : decode cX6_derive 180 = .ok (.aload_n 0, 1) := by decide +kernel
theorem dX6_derive_181 : decode cX6_derive 181 = .ok (.getfield 26, 3) := by decide +kernel
theorem dX6_derive_184 : decode cX6_derive 184 = .ok (.ireturn, 1) := by decide +kernel
theorem dX6_step_0 : decode cX6_step 0 = .ok (.aload_n 0, 1) := by decide +kernel
theorem dX6_step_1 : decode cX6_step 1 = .ok (.iload_n 1, 1) := by decide +kernel
theorem dX6_step_2 : decode cX6_step 2 = .ok (.iconst 0, 1) := by decide +kernel
theorem dX6_step_3 : decode cX6_step 3 = .ok (.aload_n 0, 1) := by decide +kernel
theorem dX6_step_4 : decode cX6_step 4 = .ok (.getfield 26, 3) := by decide +kernel
theorem dX6_step_7 : decode cX6_step 7 = .ok (.iconst 1, 1) := by decide +kernel
theorem dX6_step_8 : decode cX6_step 8 = .ok (.isub, 1) := by decide +kernel
theorem dX6_step_9 : decode cX6_step 9 = .ok (.invokestatic 45, 3) := by decide +kernel
theorem dX6_step_12 : decode cX6_step 12 = .ok (.ifCond .ne 7, 3) := by decide +kernel
theorem dX6_step_15 : decode cX6_step 15 = .ok (.iconst 1, 1) := by decide +kernel
theorem dX6_step_16 : decode cX6_step 16 = .ok (.goto 4, 3) := by decide +kernel
theorem dX6_step_19 : decode cX6_step 19 = .ok (.iconst 0, 1) := by decide +kernel
theorem dX6_step_20 : decode cX6_step 20 = .ok (.iconst 0, 1) := by decide +kernel
theorem dX6_step_21 : decode cX6_step 21 = .ok (.iconst 0, 1) := by decide +kernel
theorem dX6_step_22 : decode cX6_step 22 = .ok (.invokevirtual 56, 3) := by decide +kernel
theorem dX6_step_25 : decode cX6_step 25 = .ok (.ifCond .eq 7, 3) := by decide +kernel
theorem dX6_step_28 : decode cX6_step 28 = .ok (.iconst 0, 1) := by decide +kernel
theorem dX6_step_29 : decode cX6_step 29 = .ok (.goto 9, 3) := by decide +kernel
theorem dX6_step_32 : decode cX6_step 32 = .ok (.aload_n 0, 1) := by decide +kernel
theorem dX6_step_33 : decode cX6_step 33 = .ok (.getfield 30, 3) := by decide +kernel
theorem dX6_step_36 : decode cX6_step 36 = .ok (.iload_n 1, 1) := by decide +kernel
theorem dX6_step_37 : decode cX6_step 37 = .ok (.iaload, 1) := by decide +kernel
theorem dX6_step_38 : decode cX6_step 38 = .ok (.ireturn, 1) := by decide +kernel
theorem dX6_use_0 : decode cX6_use 0 = .ok (.aload_n 0, 1) := by decide +kernel
theorem dX6_use_1 : decode cX6_use 1 = .ok (.iload_n 1, 1) := by decide +kernel
theorem dX6_use_2 : decode cX6_use 2 = .ok (.iconst 0, 1) := by decide +kernel
theorem dX6_use_3 : decode cX6_use 3 = .ok (.aload_n 0, 1) := by decide +kernel
theorem dX6_use_4 : decode cX6_use 4 = .ok (.getfield 53, 3) := by decide +kernel
theorem dX6_use_7 : decode cX6_use 7 = .ok (.iconst 1, 1) := by decide +kernel
theorem dX6_use_8 : decode cX6_use 8 = .ok (.isub, 1) := by decide +kernel
theorem dX6_use_9 : decode cX6_use 9 = .ok (.invokestatic 45, 3) := by decide +kernel
theorem dX6_use_12 : decode cX6_use 12 = .ok (.ifCond .eq 13, 3) := by decide +kernel
theorem dX6_use_15 : decode cX6_use 15 = .ok (.iload_n 2, 1) := by decide +kernel
theorem dX6_use_16 : decode cX6_use 16 = .ok (.iconst 0, 1) := by decide +kernel
theorem dX6_use_17 : decode cX6_use 17 = .ok (.bipush 50, 2) := by decide +kernel
theorem dX6_use_19 : decode cX6_use 19 = .ok (.invokestatic 45, 3) := by decide +kernel
theorem dX6_use_22 : decode cX6_use 22 = .ok (.ifCond .ne 7, 3) := by decide +kernel
theorem dX6_use_25 : decode cX6_use 25 = .ok (.iconst 1, 1) := by decide +kernel
theorem dX6_use_26 : decode cX6_use 26 = .ok (.goto 4, 3) := by decide +kernel
theorem dX6_use_29 : decode cX6_use 29 = .ok (.iconst 0, 1) := by decide +kernel
theorem dX6_use_30 : decode cX6_use 30 = .ok (.iconst 0, 1) := by decide +kernel
theorem dX6_use_31 : decode cX6_use 31 = .ok (.iconst 0, 1) := by decide +kernel
theorem dX6_use_32 : decode cX6_use 32 = .ok (.invokevirtual 56, 3) := by decide +kernel
theorem dX6_use_35 : decode cX6_use 35 = .ok (.ifCond .eq 5, 3) := by decide +kernel
theorem dX6_use_38 : decode cX6_use 38 = .ok (.iconst 0, 1) := by decide +kernel
theorem dX6_use_39 : decode cX6_use 39 = .ok (.ireturn, 1) := by decide +kernel
theorem dX6_use_40 : decode cX6_use 40 = .ok (.aload_n 0, 1) := by decide +kernel
theorem dX6_use_41 : decode cX6_use 41 = .ok (.getfield 16, 3) := by decide +kernel
theorem dX6_use_44 : decode cX6_use 44 = .ok (.iload_n 1, 1) := by decide +kernel
theorem dX6_use_45 : decode cX6_use 45 = .ok (.iaload, 1) := by decide +kernel
theorem dX6_use_46 : decode cX6_use 46 = .ok (.istore_n 3, 1) := by decide +kernel
theorem dX6_use_47 : decode cX6_use 47 = .ok (.aload_n 0, 1) := by decide +kernel
theorem dX6_use_48 : decode cX6_use 48 = .ok (.getfield 16, 3) := by decide +kernel
theorem dX6_use_51 : decode cX6_use 51 = .ok (.iload_n 1, 1) := by decide +kernel
theorem dX6_use_52 : decode cX6_use 52 = .ok (.iload_n 2, 1) := by decide +kernel
theorem dX6_use_53 : decode cX6_use 53 = .ok (.iastore, 1) := by decide +kernel
theorem dX6_use_54 : decode cX6_use 54 = .ok (.iload_n 3, 1) := by decide +kernel
theorem dX6_use_55 : decode cX6_use 55 = .ok (.ireturn, 1) := by decide +kernel
theorem dX6_stands_0 : decode cX6_stands 0 = .ok (.iconst 0, 1) := by decide +kernel
theorem dX6_stands_1 : decode cX6_stands 1 = .ok (.istore_n 2, 1) := by decide +kernel
theorem dX6_stands_2 : decode cX6_stands 2 = .ok (.iconst 0, 1) := by decide +kernel
theorem dX6_stands_3 : decode cX6_stands 3 = .ok (.istore_n 3, 1) := by decide +kernel
theorem dX6_stands_4 : decode cX6_stands 4 = .ok (.iload_n 3, 1) := by decide +kernel
theorem dX6_stands_5 : decode cX6_stands 5 = .ok (.aload_n 0, 1) := by decide +kernel
theorem dX6_stands_6 : decode cX6_stands 6 = .ok (.getfield 53, 3) := by decide +kernel
theorem dX6_stands_9 : decode cX6_stands 9 = .ok (.if_icmp .ge 25, 3) := by decide +kernel
theorem dX6_stands_12 : decode cX6_stands 12 = .ok (.iload_n 2, 1) := by decide +kernel
theorem dX6_stands_13 : decode cX6_stands 13 = .ok (.aload_n 0, 1) := by decide +kernel
theorem dX6_stands_14 : decode cX6_stands 14 = .ok (.getfield 16, 3) := by decide +kernel
theorem dX6_stands_17 : decode cX6_stands 17 = .ok (.iload_n 3, 1) := by decide +kernel
theorem dX6_stands_18 : decode cX6_stands 18 = .ok (.iaload, 1) := by decide +kernel
theorem dX6_stands_19 : decode cX6_stands 19 = .ok (.aload_n 0, 1) := by decide +kernel
theorem dX6_stands_20 : decode cX6_stands 20 = .ok (.iload_n 3, 1) := by decide +kernel
theorem dX6_stands_21 : decode cX6_stands 21 = .ok (.iload_n 1, 1) := by decide +kernel
theorem dX6_stands_22 : decode cX6_stands 22 = .ok (.invokevirtual 64, 3) := by decide +kernel
theorem dX6_stands_25 : decode cX6_stands 25 = .ok (.imul, 1) := by decide +kernel
theorem dX6_stands_26 : decode cX6_stands 26 = .ok (.iadd, 1) := by decide +kernel
theorem dX6_stands_27 : decode cX6_stands 27 = .ok (.istore_n 2, 1) := by decide +kernel
theorem dX6_stands_28 : decode cX6_stands 28 = .ok (.iinc 3 1, 3) := by decide +kernel
theorem dX6_stands_31 : decode cX6_stands 31 = .ok (.goto (-27), 3) := by decide +kernel
theorem dX6_stands_34 : decode cX6_stands 34 = .ok (.iload_n 2, 1) := by decide +kernel
theorem dX6_stands_35 : decode cX6_stands 35 = .ok (.ireturn, 1) := by decide +kernel
theorem dX6_asLeft_0 : decode cX6_asLeft 0 = .ok (.iconst 0, 1) := by decide +kernel
theorem dX6_asLeft_1 : decode cX6_asLeft 1 = .ok (.istore_n 2, 1) := by decide +kernel
theorem dX6_asLeft_2 : decode cX6_asLeft 2 = .ok (.iconst 0, 1) := by decide +kernel
theorem dX6_asLeft_3 : decode cX6_asLeft 3 = .ok (.istore_n 3, 1) := by decide +kernel
theorem dX6_asLeft_4 : decode cX6_asLeft 4 = .ok (.iload_n 3, 1) := by decide +kernel
theorem dX6_asLeft_5 : decode cX6_asLeft 5 = .ok (.aload_n 0, 1) := by decide +kernel
theorem dX6_asLeft_6 : decode cX6_asLeft 6 = .ok (.getfield 53, 3) := by decide +kernel
theorem dX6_asLeft_9 : decode cX6_asLeft 9 = .ok (.if_icmp .ge 32, 3) := by decide +kernel
theorem dX6_asLeft_12 : decode cX6_asLeft 12 = .ok (.aload_n 0, 1) := by decide +kernel
theorem dX6_asLeft_13 : decode cX6_asLeft 13 = .ok (.getfield 7, 3) := by decide +kernel
theorem dX6_asLeft_16 : decode cX6_asLeft 16 = .ok (.iload_n 3, 1) := by decide +kernel
theorem dX6_asLeft_17 : decode cX6_asLeft 17 = .ok (.iaload, 1) := by decide +kernel
theorem dX6_asLeft_18 : decode cX6_asLeft 18 = .ok (.iload_n 1, 1) := by decide +kernel
theorem dX6_asLeft_19 : decode cX6_asLeft 19 = .ok (.if_icmp .ne 14, 3) := by decide +kernel
theorem dX6_asLeft_22 : decode cX6_asLeft 22 = .ok (.iload_n 2, 1) := by decide +kernel
theorem dX6_asLeft_23 : decode cX6_asLeft 23 = .ok (.aload_n 0, 1) := by decide +kernel
theorem dX6_asLeft_24 : decode cX6_asLeft 24 = .ok (.getfield 16, 3) := by decide +kernel
theorem dX6_asLeft_27 : decode cX6_asLeft 27 = .ok (.iload_n 3, 1) := by decide +kernel
theorem dX6_asLeft_28 : decode cX6_asLeft 28 = .ok (.iaload, 1) := by decide +kernel
theorem dX6_asLeft_29 : decode cX6_asLeft 29 = .ok (.iadd, 1) := by decide +kernel
theorem dX6_asLeft_30 : decode cX6_asLeft 30 = .ok (.goto 4, 3) := by decide +kernel
theorem dX6_asLeft_33 : decode cX6_asLeft 33 = .ok (.iload_n 2, 1) := by decide +kernel
theorem dX6_asLeft_34 : decode cX6_asLeft 34 = .ok (.istore_n 2, 1) := by decide +kernel
theorem dX6_asLeft_35 : decode cX6_asLeft 35 = .ok (.iinc 3 1, 3) := by decide +kernel
theorem dX6_asLeft_38 : decode cX6_asLeft 38 = .ok (.goto (-34), 3) := by decide +kernel
theorem dX6_asLeft_41 : decode cX6_asLeft 41 = .ok (.iload_n 2, 1) := by decide +kernel
theorem dX6_asLeft_42 : decode cX6_asLeft 42 = .ok (.ireturn, 1) := by decide +kernel
theorem dX6_reached_0 : decode cX6_reached 0 = .ok (.iconst 1, 1) := by decide +kernel
theorem dX6_reached_1 : decode cX6_reached 1 = .ok (.iload_n 1, 1) := by decide +kernel
theorem dX6_reached_2 : decode cX6_reached 2 = .ok (.ishl, 1) := by decide +kernel
theorem dX6_reached_3 : decode cX6_reached 3 = .ok (.istore_n 2, 1) := by decide +kernel
theorem dX6_reached_4 : decode cX6_reached 4 = .ok (.iconst 0, 1) := by decide +kernel
theorem dX6_reached_5 : decode cX6_reached 5 = .ok (.istore_n 3, 1) := by decide +kernel
theorem dX6_reached_6 : decode cX6_reached 6 = .ok (.iload_n 3, 1) := by decide +kernel
theorem dX6_reached_7 : decode cX6_reached 7 = .ok (.iconst 5, 1) := by decide +kernel
theorem dX6_reached_8 : decode cX6_reached 8 = .ok (.if_icmp .ge 101, 3) := by decide +kernel
theorem dX6_reached_11 : decode cX6_reached 11 = .ok (.iconst 0, 1) := by decide +kernel
theorem dX6_reached_12 : decode cX6_reached 12 = .ok (.istore 4, 2) := by decide +kernel
theorem dX6_reached_14 : decode cX6_reached 14 = .ok (.iload 4, 2) := by decide +kernel
theorem dX6_reached_16 : decode cX6_reached 16 = .ok (.aload_n 0, 1) := by decide +kernel
theorem dX6_reached_17 : decode cX6_reached 17 = .ok (.getfield 53, 3) := by decide +kernel
theorem dX6_reached_20 : decode cX6_reached 20 = .ok (.if_icmp .ge 83, 3) := by decide +kernel
theorem dX6_reached_23 : decode cX6_reached 23 = .ok (.aload_n 0, 1) := by decide +kernel
theorem dX6_reached_24 : decode cX6_reached 24 = .ok (.getfield 16, 3) := by decide +kernel
theorem dX6_reached_27 : decode cX6_reached 27 = .ok (.iload 4, 2) := by decide +kernel
theorem dX6_reached_29 : decode cX6_reached 29 = .ok (.iaload, 1) := by decide +kernel
theorem dX6_reached_30 : decode cX6_reached 30 = .ok (.ifCond .le 22, 3) := by decide +kernel
theorem dX6_reached_33 : decode cX6_reached 33 = .ok (.iload_n 2, 1) := by decide +kernel
theorem dX6_reached_34 : decode cX6_reached 34 = .ok (.aload_n 0, 1) := by decide +kernel
theorem dX6_reached_35 : decode cX6_reached 35 = .ok (.getfield 7, 3) := by decide +kernel
theorem dX6_reached_38 : decode cX6_reached 38 = .ok (.iload 4, 2) := by decide +kernel
theorem dX6_reached_40 : decode cX6_reached 40 = .ok (.iaload, 1) := by decide +kernel
theorem dX6_reached_41 : decode cX6_reached 41 = .ok (.ishr, 1) := by decide +kernel
theorem dX6_reached_42 : decode cX6_reached 42 = .ok (.iconst 1, 1) := by decide +kernel
theorem dX6_reached_43 : decode cX6_reached 43 = .ok (.iand, 1) := by decide +kernel
theorem dX6_reached_44 : decode cX6_reached 44 = .ok (.iconst 1, 1) := by decide +kernel
theorem dX6_reached_45 : decode cX6_reached 45 = .ok (.if_icmp .ne 7, 3) := by decide +kernel
theorem dX6_reached_48 : decode cX6_reached 48 = .ok (.iconst 1, 1) := by decide +kernel
theorem dX6_reached_49 : decode cX6_reached 49 = .ok (.goto 4, 3) := by decide +kernel
theorem dX6_reached_52 : decode cX6_reached 52 = .ok (.iconst 0, 1) := by decide +kernel
theorem dX6_reached_53 : decode cX6_reached 53 = .ok (.istore 5, 2) := by decide +kernel
theorem dX6_reached_55 : decode cX6_reached 55 = .ok (.iconst 0, 1) := by decide +kernel
theorem dX6_reached_56 : decode cX6_reached 56 = .ok (.istore 6, 2) := by decide +kernel
theorem dX6_reached_58 : decode cX6_reached 58 = .ok (.iload 6, 2) := by decide +kernel
theorem dX6_reached_60 : decode cX6_reached 60 = .ok (.iconst 5, 1) := by decide +kernel
theorem dX6_reached_61 : decode cX6_reached 61 = .ok (.if_icmp .ge 36, 3) := by decide +kernel
theorem dX6_reached_64 : decode cX6_reached 64 = .ok (.iload 5, 2) := by decide +kernel
theorem dX6_reached_66 : decode cX6_reached 66 = .ok (.ifCond .eq 31, 3) := by decide +kernel
theorem dX6_reached_69 : decode cX6_reached 69 = .ok (.aload_n 0, 1) := by decide +kernel
theorem dX6_reached_70 : decode cX6_reached 70 = .ok (.iload 4, 2) := by decide +kernel
theorem dX6_reached_72 : decode cX6_reached 72 = .ok (.iload 6, 2) := by decide +kernel
theorem dX6_reached_74 : decode cX6_reached 74 = .ok (.invokevirtual 64, 3) := by decide +kernel
theorem dX6_reached_77 : decode cX6_reached 77 = .ok (.ifCond .le 12, 3) := by decide +kernel
theorem dX6_reached_80 : decode cX6_reached 80 = .ok (.iload_n 2, 1) := by decide +kernel
theorem dX6_reached_81 : decode cX6_reached 81 = .ok (.iconst 1, 1) := by decide +kernel
theorem dX6_reached_82 : decode cX6_reached 82 = .ok (.iload 6, 2) := by decide +kernel
theorem dX6_reached_84 : decode cX6_reached 84 = .ok (.ishl, 1) := by decide +kernel
theorem dX6_reached_85 : decode cX6_reached 85 = .ok (.ior, 1) := by decide +kernel
theorem dX6_reached_86 : decode cX6_reached 86 = .ok (.goto 4, 3) := by decide +kernel
theorem dX6_reached_89 : decode cX6_reached 89 = .ok (.iload_n 2, 1) := by decide +kernel
theorem dX6_reached_90 : decode cX6_reached 90 = .ok (.istore_n 2, 1) := by decide +kernel
theorem dX6_reached_91 : decode cX6_reached 91 = .ok (.iinc 6 1, 3) := by decide +kernel
theorem dX6_reached_94 : decode cX6_reached 94 = .ok (.goto (-36), 3) := by decide +kernel
theorem dX6_reached_97 : decode cX6_reached 97 = .ok (.iinc 4 1, 3) := by decide +kernel
theorem dX6_reached_100 : decode cX6_reached 100 = .ok (.goto (-86), 3) := by decide +kernel
theorem dX6_reached_103 : decode cX6_reached 103 = .ok (.iinc 3 1, 3) := by decide +kernel
theorem dX6_reached_106 : decode cX6_reached 106 = .ok (.goto (-100), 3) := by decide +kernel
theorem dX6_reached_109 : decode cX6_reached 109 = .ok (.iload_n 2, 1) := by decide +kernel
theorem dX6_reached_110 : decode cX6_reached 110 = .ok (.ireturn, 1) := by decide +kernel
theorem dX6_fit_0 : decode cX6_fit 0 = .ok (.aload_n 0, 1) := by decide +kernel
theorem dX6_fit_1 : decode cX6_fit 1 = .ok (.iload_n 1, 1) := by decide +kernel
theorem dX6_fit_2 : decode cX6_fit 2 = .ok (.invokestatic 49, 3) := by decide +kernel
theorem dX6_fit_5 : decode cX6_fit 5 = .ok (.ifCond .ne 7, 3) := by decide +kernel
theorem dX6_fit_8 : decode cX6_fit 8 = .ok (.iconst 1, 1) := by decide +kernel
theorem dX6_fit_9 : decode cX6_fit 9 = .ok (.goto 4, 3) := by decide +kernel
theorem dX6_fit_12 : decode cX6_fit 12 = .ok (.iconst 0, 1) := by decide +kernel
theorem dX6_fit_13 : decode cX6_fit 13 = .ok (.iconst 0, 1) := by decide +kernel
theorem dX6_fit_14 : decode cX6_fit 14 = .ok (.iconst 0, 1) := by decide +kernel
theorem dX6_fit_15 : decode cX6_fit 15 = .ok (.invokevirtual 56, 3) := by decide +kernel
theorem dX6_fit_18 : decode cX6_fit 18 = .ok (.ifCond .eq 5, 3) := by decide +kernel
theorem dX6_fit_21 : decode cX6_fit 21 = .ok (.iconst 0, 1) := by decide +kernel
theorem dX6_fit_22 : decode cX6_fit 22 = .ok (.ireturn, 1) := by decide +kernel
theorem dX6_fit_23 : decode cX6_fit 23 = .ok (.iconst 0, 1) := by decide +kernel
theorem dX6_fit_24 : decode cX6_fit 24 = .ok (.istore_n 2, 1) := by decide +kernel
theorem dX6_fit_25 : decode cX6_fit 25 = .ok (.iload_n 2, 1) := by decide +kernel
theorem dX6_fit_26 : decode cX6_fit 26 = .ok (.iconst 5, 1) := by decide +kernel
theorem dX6_fit_27 : decode cX6_fit 27 = .ok (.if_icmp .ge 37, 3) := by decide +kernel
theorem dX6_fit_30 : decode cX6_fit 30 = .ok (.aload_n 0, 1) := by decide +kernel
theorem dX6_fit_31 : decode cX6_fit 31 = .ok (.iload_n 2, 1) := by decide +kernel
theorem dX6_fit_32 : decode cX6_fit 32 = .ok (.invokevirtual 120, 3) := by decide +kernel
theorem dX6_fit_35 : decode cX6_fit 35 = .ok (.aload_n 0, 1) := by decide +kernel
theorem dX6_fit_36 : decode cX6_fit 36 = .ok (.iload_n 2, 1) := by decide +kernel
theorem dX6_fit_37 : decode cX6_fit 37 = .ok (.invokevirtual 123, 3) := by decide +kernel
theorem dX6_fit_40 : decode cX6_fit 40 = .ok (.iload_n 2, 1) := by decide +kernel
theorem dX6_fit_41 : decode cX6_fit 41 = .ok (.iload_n 1, 1) := by decide +kernel
theorem dX6_fit_42 : decode cX6_fit 42 = .ok (.if_icmp .ne 7, 3) := by decide +kernel
theorem dX6_fit_45 : decode cX6_fit 45 = .ok (.iconst 1, 1) := by decide +kernel
theorem dX6_fit_46 : decode cX6_fit 46 = .ok (.goto 4, 3) := by decide +kernel
theorem dX6_fit_49 : decode cX6_fit 49 = .ok (.iconst 0, 1) := by decide +kernel
theorem dX6_fit_50 : decode cX6_fit 50 = .ok (.iadd, 1) := by decide +kernel
theorem dX6_fit_51 : decode cX6_fit 51 = .ok (.if_icmp .eq 7, 3) := by decide +kernel
theorem dX6_fit_54 : decode cX6_fit 54 = .ok (.iconst 1, 1) := by decide +kernel
theorem dX6_fit_55 : decode cX6_fit 55 = .ok (.iload_n 2, 1) := by decide +kernel
theorem dX6_fit_56 : decode cX6_fit 56 = .ok (.iadd, 1) := by decide +kernel
theorem dX6_fit_57 : decode cX6_fit 57 = .ok (.ireturn, 1) := by decide +kernel
theorem dX6_fit_58 : decode cX6_fit 58 = .ok (.iinc 2 1, 3) := by decide +kernel
theorem dX6_fit_61 : decode cX6_fit 61 = .ok (.goto (-36), 3) := by decide +kernel
theorem dX6_fit_64 : decode cX6_fit 64 = .ok (.aload_n 0, 1) := by decide +kernel
theorem dX6_fit_65 : decode cX6_fit 65 = .ok (.iload_n 1, 1) := by decide +kernel
theorem dX6_fit_66 : decode cX6_fit 66 = .ok (.invokevirtual 126, 3) := by decide +kernel
theorem dX6_fit_69 : decode cX6_fit 69 = .ok (.istore_n 2, 1) := by decide +kernel
theorem dX6_fit_70 : decode cX6_fit 70 = .ok (.iconst 0, 1) := by decide +kernel
theorem dX6_fit_71 : decode cX6_fit 71 = .ok (.istore_n 3, 1) := by decide +kernel
theorem dX6_fit_72 : decode cX6_fit 72 = .ok (.iload_n 3, 1) := by decide +kernel
theorem dX6_fit_73 : decode cX6_fit 73 = .ok (.iconst 5, 1) := by decide +kernel
theorem dX6_fit_74 : decode cX6_fit 74 = .ok (.if_icmp .ge 30, 3) := by decide +kernel
theorem dX6_fit_77 : decode cX6_fit 77 = .ok (.aload_n 0, 1) := by decide +kernel
theorem dX6_fit_78 : decode cX6_fit 78 = .ok (.iload_n 3, 1) := by decide +kernel
theorem dX6_fit_79 : decode cX6_fit 79 = .ok (.invokevirtual 120, 3) := by decide +kernel
theorem dX6_fit_82 : decode cX6_fit 82 = .ok (.ifCond .le 16, 3) := by decide +kernel
theorem dX6_fit_85 : decode cX6_fit 85 = .ok (.iload_n 2, 1) := by decide +kernel
theorem dX6_fit_86 : decode cX6_fit 86 = .ok (.iload_n 3, 1) := by decide +kernel
theorem dX6_fit_87 : decode cX6_fit 87 = .ok (.ishr, 1) := by decide +kernel
theorem dX6_fit_88 : decode cX6_fit 88 = .ok (.iconst 1, 1) := by decide +kernel
theorem dX6_fit_89 : decode cX6_fit 89 = .ok (.iand, 1) := by decide +kernel
theorem dX6_fit_90 : decode cX6_fit 90 = .ok (.ifCond .ne 8, 3) := by decide +kernel
theorem dX6_fit_93 : decode cX6_fit 93 = .ok (.bipush 11, 2) := by decide +kernel
theorem dX6_fit_95 : decode cX6_fit 95 = .ok (.iload_n 3, 1) := by decide +kernel
theorem dX6_fit_96 : decode cX6_fit 96 = .ok (.iadd, 1) := by decide +kernel
theorem dX6_fit_97 : decode cX6_fit 97 = .ok (.ireturn, 1) := by decide +kernel
theorem dX6_fit_98 : decode cX6_fit 98 = .ok (.iinc 3 1, 3) := by decide +kernel
theorem dX6_fit_101 : decode cX6_fit 101 = .ok (.goto (-29), 3) := by decide +kernel
theorem dX6_fit_104 : decode cX6_fit 104 = .ok (.iconst 0, 1) := by decide +kernel
theorem dX6_fit_105 : decode cX6_fit 105 = .ok (.ireturn, 1) := by decide +kernel
theorem dX6_letters_0 : decode cX6_letters 0 = .ok (.aload_n 0, 1) := by decide +kernel
theorem dX6_letters_1 : decode cX6_letters 1 = .ok (.iload_n 1, 1) := by decide +kernel
theorem dX6_letters_2 : decode cX6_letters 2 = .ok (.iconst 0, 1) := by decide +kernel
theorem dX6_letters_3 : decode cX6_letters 3 = .ok (.iconst 2, 1) := by decide +kernel
theorem dX6_letters_4 : decode cX6_letters 4 = .ok (.invokestatic 45, 3) := by decide +kernel
theorem dX6_letters_7 : decode cX6_letters 7 = .ok (.ifCond .ne 7, 3) := by decide +kernel
theorem dX6_letters_10 : decode cX6_letters 10 = .ok (.iconst 1, 1) := by decide +kernel
theorem dX6_letters_11 : decode cX6_letters 11 = .ok (.goto 4, 3) := by decide +kernel
theorem dX6_letters_14 : decode cX6_letters 14 = .ok (.iconst 0, 1) := by decide +kernel
theorem dX6_letters_15 : decode cX6_letters 15 = .ok (.iconst 0, 1) := by decide +kernel
theorem dX6_letters_16 : decode cX6_letters 16 = .ok (.iconst 0, 1) := by decide +kernel
theorem dX6_letters_17 : decode cX6_letters 17 = .ok (.invokevirtual 56, 3) := by decide +kernel
theorem dX6_letters_20 : decode cX6_letters 20 = .ok (.ifCond .eq 7, 3) := by decide +kernel
theorem dX6_letters_23 : decode cX6_letters 23 = .ok (.iconst 0, 1) := by decide +kernel
theorem dX6_letters_24 : decode cX6_letters 24 = .ok (.goto 10, 3) := by decide +kernel
theorem dX6_letters_27 : decode cX6_letters 27 = .ok (.aload_n 0, 1) := by decide +kernel
theorem dX6_letters_28 : decode cX6_letters 28 = .ok (.iconst 5, 1) := by decide +kernel
theorem dX6_letters_29 : decode cX6_letters 29 = .ok (.iload_n 1, 1) := by decide +kernel
theorem dX6_letters_30 : decode cX6_letters 30 = .ok (.iadd, 1) := by decide +kernel
theorem dX6_letters_31 : decode cX6_letters 31 = .ok (.invokevirtual 123, 3) := by decide +kernel
theorem dX6_letters_34 : decode cX6_letters 34 = .ok (.ireturn, 1) := by decide +kernel
end
section
theorem dL_rule_0 : decode cL_rule 0 = .ok (.aload 6, 2) := by decide +kernel
theorem dL_rule_2 : decode cL_rule 2 = .ok (.iconst 0, 1) := by decide +kernel
theorem dL_rule_3 : decode cL_rule 3 = .ok (.aload_n 0, 1) := by decide +kernel
theorem dL_rule_4 : decode cL_rule 4 = .ok (.iload_n 1, 1) := by decide +kernel
theorem dL_rule_5 : decode cL_rule 5 = .ok (.iload_n 2, 1) := by decide +kernel
theorem dL_rule_6 : decode cL_rule 6 = .ok (.iload_n 3, 1) := by decide +kernel
theorem dL_rule_7 : decode cL_rule 7 = .ok (.iload 4, 2) := by decide +kernel
theorem dL_rule_9 : decode cL_rule 9 = .ok (.iload 5, 2) := by decide +kernel
theorem dL_rule_11 : decode cL_rule 11 = .ok (.invokevirtual 7, 3) := by decide +kernel
theorem dL_rule_14 : decode cL_rule 14 = .ok (.i2l, 1) := by decide +kernel
theorem dL_rule_15 : decode cL_rule 15 = .ok (.lastore, 1) := by decide +kernel
theorem dL_rule_16 : decode cL_rule 16 = .ok (.goto 11, 3) := by decide +kernel
theorem dL_rule_19 : decode cL_rule 19 = .ok (.astore 7, 2) := by decide +kernel
theorem dL_rule_21 : decode cL_rule 21 = .ok (.iconst 1, 1) := by decide +kernel
theorem dL_rule_22 : decode cL_rule 22 = .ok (.ireturn, 1) := by decide +kernel
theorem dL_rule_23 : decode cL_rule 23 = .ok (.astore 7, 2) := by decide +kernel
theorem dL_rule_25 : decode cL_rule 25 = .ok (.iconst 2, 1) := by decide +kernel
theorem dL_rule_26 : decode cL_rule 26 = .ok (.ireturn, 1) := by decide +kernel
theorem dL_rule_27 : decode cL_rule 27 = .ok (.iconst 0, 1) := by decide +kernel
theorem dL_rule_28 : decode cL_rule 28 = .ok (.ireturn, 1) := by decide +kernel
theorem dL_height_0 : decode cL_height 0 = .ok (.aload 5, 2) := by decide +kernel
theorem dL_height_2 : decode cL_height 2 = .ok (.iconst 0, 1) := by decide +kernel
theorem dL_height_3 : decode cL_height 3 = .ok (.aload_n 0, 1) := by decide +kernel
theorem dL_height_4 : decode cL_height 4 = .ok (.iload_n 1, 1) := by decide +kernel
theorem dL_height_5 : decode cL_height 5 = .ok (.iload_n 2, 1) := by decide +kernel
theorem dL_height_6 : decode cL_height 6 = .ok (.iload_n 3, 1) := by decide +kernel
theorem dL_height_7 : decode cL_height 7 = .ok (.iload 4, 2) := by decide +kernel
theorem dL_height_9 : decode cL_height 9 = .ok (.invokevirtual 17, 3) := by decide +kernel
theorem dL_height_12 : decode cL_height 12 = .ok (.i2l, 1) := by decide +kernel
theorem dL_height_13 : decode cL_height 13 = .ok (.lastore, 1) := by decide +kernel
theorem dL_height_14 : decode cL_height 14 = .ok (.goto 7, 3) := by decide +kernel
theorem dL_height_17 : decode cL_height 17 = .ok (.astore 6, 2) := by decide +kernel
theorem dL_height_19 : decode cL_height 19 = .ok (.iconst 1, 1) := by decide +kernel
theorem dL_height_20 : decode cL_height 20 = .ok (.ireturn, 1) := by decide +kernel
theorem dL_height_21 : decode cL_height 21 = .ok (.iconst 0, 1) := by decide +kernel
theorem dL_height_22 : decode cL_height 22 = .ok (.ireturn, 1) := by decide +kernel
theorem dL_many_0 : decode cL_many 0 = .ok (.aload_n 2, 1) := by decide +kernel
theorem dL_many_1 : decode cL_many 1 = .ok (.iconst 0, 1) := by decide +kernel
theorem dL_many_2 : decode cL_many 2 = .ok (.aload_n 0, 1) := by decide +kernel
theorem dL_many_3 : decode cL_many 3 = .ok (.iload_n 1, 1) := by decide +kernel
theorem dL_many_4 : decode cL_many 4 = .ok (.invokevirtual 21, 3) := by decide +kernel
theorem dL_many_7 : decode cL_many 7 = .ok (.i2l, 1) := by decide +kernel
theorem dL_many_8 : decode cL_many 8 = .ok (.lastore, 1) := by decide +kernel
theorem dL_many_9 : decode cL_many 9 = .ok (.goto 6, 3) := by decide +kernel
theorem dL_many_12 : decode cL_many 12 = .ok (.astore_n 3, 1) := by decide +kernel
theorem dL_many_13 : decode cL_many 13 = .ok (.iconst 1, 1) := by decide +kernel
theorem dL_many_14 : decode cL_many 14 = .ok (.ireturn, 1) := by decide +kernel
theorem dL_many_15 : decode cL_many 15 = .ok (.iconst 0, 1) := by decide +kernel
theorem dL_many_16 : decode cL_many 16 = .ok (.ireturn, 1) := by decide +kernel
theorem dL_count_0 : decode cL_count 0 = .ok (.aload_n 3, 1) := by decide +kernel
theorem dL_count_1 : decode cL_count 1 = .ok (.iconst 0, 1) := by decide +kernel
theorem dL_count_2 : decode cL_count 2 = .ok (.aload_n 0, 1) := by decide +kernel
theorem dL_count_3 : decode cL_count 3 = .ok (.iload_n 1, 1) := by decide +kernel
theorem dL_count_4 : decode cL_count 4 = .ok (.iload_n 2, 1) := by decide +kernel
theorem dL_count_5 : decode cL_count 5 = .ok (.invokevirtual 25, 3) := by decide +kernel
theorem dL_count_8 : decode cL_count 8 = .ok (.i2l, 1) := by decide +kernel
theorem dL_count_9 : decode cL_count 9 = .ok (.lastore, 1) := by decide +kernel
theorem dL_count_10 : decode cL_count 10 = .ok (.goto 11, 3) := by decide +kernel
theorem dL_count_13 : decode cL_count 13 = .ok (.astore 4, 2) := by decide +kernel
theorem dL_count_15 : decode cL_count 15 = .ok (.iconst 1, 1) := by decide +kernel
theorem dL_count_16 : decode cL_count 16 = .ok (.ireturn, 1) := by decide +kernel
theorem dL_count_17 : decode cL_count 17 = .ok (.astore 4, 2) := by decide +kernel
theorem dL_count_19 : decode cL_count 19 = .ok (.iconst 2, 1) := by decide +kernel
theorem dL_count_20 : decode cL_count 20 = .ok (.ireturn, 1) := by decide +kernel
theorem dL_count_21 : decode cL_count 21 = .ok (.iconst 0, 1) := by decide +kernel
theorem dL_count_22 : decode cL_count 22 = .ok (.ireturn, 1) := by decide +kernel
theorem dL_derive_0 : decode cL_derive 0 = .ok (.aload 5, 2) := by decide +kernel
theorem dL_derive_2 : decode cL_derive 2 = .ok (.iconst 0, 1) := by decide +kernel
theorem dL_derive_3 : decode cL_derive 3 = .ok (.aload_n 0, 1) := by decide +kernel
theorem dL_derive_4 : decode cL_derive 4 = .ok (.iload_n 1, 1) := by decide +kernel
theorem dL_derive_5 : decode cL_derive 5 = .ok (.iload_n 2, 1) := by decide +kernel
theorem dL_derive_6 : decode cL_derive 6 = .ok (.iload_n 3, 1) := by decide +kernel
theorem dL_derive_7 : decode cL_derive 7 = .ok (.iload 4, 2) := by decide +kernel
theorem dL_derive_9 : decode cL_derive 9 = .ok (.invokevirtual 31, 3) := by decide +kernel
theorem dL_derive_12 : decode cL_derive 12 = .ok (.i2l, 1) := by decide +kernel
theorem dL_derive_13 : decode cL_derive 13 = .ok (.lastore, 1) := by decide +kernel
theorem dL_derive_14 : decode cL_derive 14 = .ok (.goto 15, 3) := by decide +kernel
theorem dL_derive_17 : decode cL_derive 17 = .ok (.astore 6, 2) := by decide +kernel
theorem dL_derive_19 : decode cL_derive 19 = .ok (.iconst 1, 1) := by decide +kernel
theorem dL_derive_20 : decode cL_derive 20 = .ok (.ireturn, 1) := by decide +kernel
theorem dL_derive_21 : decode cL_derive 21 = .ok (.astore 6, 2) := by decide +kernel
theorem dL_derive_23 : decode cL_derive 23 = .ok (.iconst 2, 1) := by decide +kernel
theorem dL_derive_24 : decode cL_derive 24 = .ok (.ireturn, 1) := by decide +kernel
theorem dL_derive_25 : decode cL_derive 25 = .ok (.astore 6, 2) := by decide +kernel
theorem dL_derive_27 : decode cL_derive 27 = .ok (.iconst 3, 1) := by decide +kernel
theorem dL_derive_28 : decode cL_derive 28 = .ok (.ireturn, 1) := by decide +kernel
theorem dL_derive_29 : decode cL_derive 29 = .ok (.iconst 0, 1) := by decide +kernel
theorem dL_derive_30 : decode cL_derive 30 = .ok (.ireturn, 1) := by decide +kernel
theorem dL_step_0 : decode cL_step 0 = .ok (.aload_n 2, 1) := by decide +kernel
theorem dL_step_1 : decode cL_step 1 = .ok (.iconst 0, 1) := by decide +kernel
theorem dL_step_2 : decode cL_step 2 = .ok (.aload_n 0, 1) := by decide +kernel
theorem dL_step_3 : decode cL_step 3 = .ok (.iload_n 1, 1) := by decide +kernel
theorem dL_step_4 : decode cL_step 4 = .ok (.invokevirtual 38, 3) := by decide +kernel
theorem dL_step_7 : decode cL_step 7 = .ok (.i2l, 1) := by decide +kernel
theorem dL_step_8 : decode cL_step 8 = .ok (.lastore, 1) := by decide +kernel
theorem dL_step_9 : decode cL_step 9 = .ok (.goto 6, 3) := by decide +kernel
theorem dL_step_12 : decode cL_step 12 = .ok (.astore_n 3, 1) := by decide +kernel
theorem dL_step_13 : decode cL_step 13 = .ok (.iconst 1, 1) := by decide +kernel
theorem dL_step_14 : decode cL_step 14 = .ok (.ireturn, 1) := by decide +kernel
theorem dL_step_15 : decode cL_step 15 = .ok (.iconst 0, 1) := by decide +kernel
theorem dL_step_16 : decode cL_step 16 = .ok (.ireturn, 1) := by decide +kernel
theorem dL_use_0 : decode cL_use 0 = .ok (.aload_n 3, 1) := by decide +kernel
theorem dL_use_1 : decode cL_use 1 = .ok (.iconst 0, 1) := by decide +kernel
theorem dL_use_2 : decode cL_use 2 = .ok (.aload_n 0, 1) := by decide +kernel
theorem dL_use_3 : decode cL_use 3 = .ok (.iload_n 1, 1) := by decide +kernel
theorem dL_use_4 : decode cL_use 4 = .ok (.iload_n 2, 1) := by decide +kernel
theorem dL_use_5 : decode cL_use 5 = .ok (.invokevirtual 41, 3) := by decide +kernel
theorem dL_use_8 : decode cL_use 8 = .ok (.i2l, 1) := by decide +kernel
theorem dL_use_9 : decode cL_use 9 = .ok (.lastore, 1) := by decide +kernel
theorem dL_use_10 : decode cL_use 10 = .ok (.goto 7, 3) := by decide +kernel
theorem dL_use_13 : decode cL_use 13 = .ok (.astore 4, 2) := by decide +kernel
theorem dL_use_15 : decode cL_use 15 = .ok (.iconst 1, 1) := by decide +kernel
theorem dL_use_16 : decode cL_use 16 = .ok (.ireturn, 1) := by decide +kernel
theorem dL_use_17 : decode cL_use 17 = .ok (.iconst 0, 1) := by decide +kernel
theorem dL_use_18 : decode cL_use 18 = .ok (.ireturn, 1) := by decide +kernel
theorem dL_fit_0 : decode cL_fit 0 = .ok (.aload_n 2, 1) := by decide +kernel
theorem dL_fit_1 : decode cL_fit 1 = .ok (.iconst 0, 1) := by decide +kernel
theorem dL_fit_2 : decode cL_fit 2 = .ok (.aload_n 0, 1) := by decide +kernel
theorem dL_fit_3 : decode cL_fit 3 = .ok (.iload_n 1, 1) := by decide +kernel
theorem dL_fit_4 : decode cL_fit 4 = .ok (.invokevirtual 44, 3) := by decide +kernel
theorem dL_fit_7 : decode cL_fit 7 = .ok (.i2l, 1) := by decide +kernel
theorem dL_fit_8 : decode cL_fit 8 = .ok (.lastore, 1) := by decide +kernel
theorem dL_fit_9 : decode cL_fit 9 = .ok (.goto 6, 3) := by decide +kernel
theorem dL_fit_12 : decode cL_fit 12 = .ok (.astore_n 3, 1) := by decide +kernel
theorem dL_fit_13 : decode cL_fit 13 = .ok (.iconst 1, 1) := by decide +kernel
theorem dL_fit_14 : decode cL_fit 14 = .ok (.ireturn, 1) := by decide +kernel
theorem dL_fit_15 : decode cL_fit 15 = .ok (.iconst 0, 1) := by decide +kernel
theorem dL_fit_16 : decode cL_fit 16 = .ok (.ireturn, 1) := by decide +kernel
theorem dL_letters_0 : decode cL_letters 0 = .ok (.aload_n 2, 1) := by decide +kernel
theorem dL_letters_1 : decode cL_letters 1 = .ok (.iconst 0, 1) := by decide +kernel
theorem dL_letters_2 : decode cL_letters 2 = .ok (.aload_n 0, 1) := by decide +kernel
theorem dL_letters_3 : decode cL_letters 3 = .ok (.iload_n 1, 1) := by decide +kernel
theorem dL_letters_4 : decode cL_letters 4 = .ok (.invokevirtual 47, 3) := by decide +kernel
theorem dL_letters_7 : decode cL_letters 7 = .ok (.i2l, 1) := by decide +kernel
theorem dL_letters_8 : decode cL_letters 8 = .ok (.lastore, 1) := by decide +kernel
theorem dL_letters_9 : decode cL_letters 9 = .ok (.goto 6, 3) := by decide +kernel
theorem dL_letters_12 : decode cL_letters 12 = .ok (.astore_n 3, 1) := by decide +kernel
theorem dL_letters_13 : decode cL_letters 13 = .ok (.iconst 1, 1) := by decide +kernel
theorem dL_letters_14 : decode cL_letters 14 = .ok (.ireturn, 1) := by decide +kernel
theorem dL_letters_15 : decode cL_letters 15 = .ok (.iconst 0, 1) := by decide +kernel
theorem dL_letters_16 : decode cL_letters 16 = .ok (.ireturn, 1) := by decide +kernel
theorem dL_law_0 : decode cL_law 0 = .ok (.new 8, 3) := by decide +kernel
theorem dL_law_3 : decode cL_law 3 = .ok (.dup, 1) := by decide +kernel
theorem dL_law_4 : decode cL_law 4 = .ok (.invokespecial 50, 3) := by decide +kernel
theorem dL_law_7 : decode cL_law 7 = .ok (.astore_n 1, 1) := by decide +kernel
theorem dL_law_8 : decode cL_law 8 = .ok (.new 51, 3) := by decide +kernel
theorem dL_law_11 : decode cL_law 11 = .ok (.dup, 1) := by decide +kernel
theorem dL_law_12 : decode cL_law 12 = .ok (.invokespecial 53, 3) := by decide +kernel
theorem dL_law_15 : decode cL_law 15 = .ok (.astore_n 2, 1) := by decide +kernel
theorem dL_law_16 : decode cL_law 16 = .ok (.iconst 1, 1) := by decide +kernel
theorem dL_law_17 : decode cL_law 17 = .ok (.newarray .long, 2) := by decide +kernel
theorem dL_law_19 : decode cL_law 19 = .ok (.astore_n 3, 1) := by decide +kernel
theorem dL_law_20 : decode cL_law 20 = .ok (.iconst 0, 1) := by decide +kernel
theorem dL_law_21 : decode cL_law 21 = .ok (.istore 4, 2) := by decide +kernel
theorem dL_law_23 : decode cL_law 23 = .ok (.iload 4, 2) := by decide +kernel
theorem dL_law_25 : decode cL_law 25 = .ok (.aload_n 0, 1) := by decide +kernel
theorem dL_law_26 : decode cL_law 26 = .ok (.arraylength, 1) := by decide +kernel
theorem dL_law_27 : decode cL_law 27 = .ok (.bipush 6, 2) := by decide +kernel
theorem dL_law_29 : decode cL_law 29 = .ok (.isub, 1) := by decide +kernel
theorem dL_law_30 : decode cL_law 30 = .ok (.if_icmp .gt 731, 3) := by decide +kernel
theorem dL_law_33 : decode cL_law 33 = .ok (.aload_n 0, 1) := by decide +kernel
theorem dL_law_34 : decode cL_law 34 = .ok (.iload 4, 2) := by decide +kernel
theorem dL_law_36 : decode cL_law 36 = .ok (.iaload, 1) := by decide +kernel
theorem dL_law_37 : decode cL_law 37 = .ok (.bipush 15, 2) := by decide +kernel
theorem dL_law_39 : decode cL_law 39 = .ok (.iand, 1) := by decide +kernel
theorem dL_law_40 : decode cL_law 40 = .ok (.tableswitch 715 0 9 #[56, 160, 171, 263, 319, 387, 479, 535, 603, 659], 56) := by decide +kernel
theorem dL_law_96 : decode cL_law 96 = .ok (.aload_n 1, 1) := by decide +kernel
theorem dL_law_97 : decode cL_law 97 = .ok (.aload_n 0, 1) := by decide +kernel
theorem dL_law_98 : decode cL_law 98 = .ok (.iload 4, 2) := by decide +kernel
theorem dL_law_100 : decode cL_law 100 = .ok (.iconst 1, 1) := by decide +kernel
theorem dL_law_101 : decode cL_law 101 = .ok (.iadd, 1) := by decide +kernel
theorem dL_law_102 : decode cL_law 102 = .ok (.iaload, 1) := by decide +kernel
theorem dL_law_103 : decode cL_law 103 = .ok (.aload_n 0, 1) := by decide +kernel
theorem dL_law_104 : decode cL_law 104 = .ok (.iload 4, 2) := by decide +kernel
theorem dL_law_106 : decode cL_law 106 = .ok (.iconst 2, 1) := by decide +kernel
theorem dL_law_107 : decode cL_law 107 = .ok (.iadd, 1) := by decide +kernel
theorem dL_law_108 : decode cL_law 108 = .ok (.iaload, 1) := by decide +kernel
theorem dL_law_109 : decode cL_law 109 = .ok (.aload_n 0, 1) := by decide +kernel
theorem dL_law_110 : decode cL_law 110 = .ok (.iload 4, 2) := by decide +kernel
theorem dL_law_112 : decode cL_law 112 = .ok (.iconst 3, 1) := by decide +kernel
theorem dL_law_113 : decode cL_law 113 = .ok (.iadd, 1) := by decide +kernel
theorem dL_law_114 : decode cL_law 114 = .ok (.iaload, 1) := by decide +kernel
theorem dL_law_115 : decode cL_law 115 = .ok (.aload_n 0, 1) := by decide +kernel
theorem dL_law_116 : decode cL_law 116 = .ok (.iload 4, 2) := by decide +kernel
theorem dL_law_118 : decode cL_law 118 = .ok (.iconst 4, 1) := by decide +kernel
theorem dL_law_119 : decode cL_law 119 = .ok (.iadd, 1) := by decide +kernel
theorem dL_law_120 : decode cL_law 120 = .ok (.iaload, 1) := by decide +kernel
theorem dL_law_121 : decode cL_law 121 = .ok (.aload_n 0, 1) := by decide +kernel
theorem dL_law_122 : decode cL_law 122 = .ok (.iload 4, 2) := by decide +kernel
theorem dL_law_124 : decode cL_law 124 = .ok (.iconst 5, 1) := by decide +kernel
theorem dL_law_125 : decode cL_law 125 = .ok (.iadd, 1) := by decide +kernel
theorem dL_law_126 : decode cL_law 126 = .ok (.iaload, 1) := by decide +kernel
theorem dL_law_127 : decode cL_law 127 = .ok (.aload_n 3, 1) := by decide +kernel
theorem dL_law_128 : decode cL_law 128 = .ok (.invokestatic 54, 3) := by decide +kernel
theorem dL_law_131 : decode cL_law 131 = .ok (.istore 5, 2) := by decide +kernel
theorem dL_law_133 : decode cL_law 133 = .ok (.aload_n 2, 1) := by decide +kernel
theorem dL_law_134 : decode cL_law 134 = .ok (.aload_n 0, 1) := by decide +kernel
theorem dL_law_135 : decode cL_law 135 = .ok (.iload 4, 2) := by decide +kernel
theorem dL_law_137 : decode cL_law 137 = .ok (.iconst 1, 1) := by decide +kernel
theorem dL_law_138 : decode cL_law 138 = .ok (.iadd, 1) := by decide +kernel
theorem dL_law_139 : decode cL_law 139 = .ok (.iaload, 1) := by decide +kernel
theorem dL_law_140 : decode cL_law 140 = .ok (.aload_n 0, 1) := by decide +kernel
theorem dL_law_141 : decode cL_law 141 = .ok (.iload 4, 2) := by decide +kernel
theorem dL_law_143 : decode cL_law 143 = .ok (.iconst 2, 1) := by decide +kernel
theorem dL_law_144 : decode cL_law 144 = .ok (.iadd, 1) := by decide +kernel
theorem dL_law_145 : decode cL_law 145 = .ok (.iaload, 1) := by decide +kernel
theorem dL_law_146 : decode cL_law 146 = .ok (.aload_n 0, 1) := by decide +kernel
theorem dL_law_147 : decode cL_law 147 = .ok (.iload 4, 2) := by decide +kernel
theorem dL_law_149 : decode cL_law 149 = .ok (.iconst 3, 1) := by decide +kernel
theorem dL_law_150 : decode cL_law 150 = .ok (.iadd, 1) := by decide +kernel
theorem dL_law_151 : decode cL_law 151 = .ok (.iaload, 1) := by decide +kernel
theorem dL_law_152 : decode cL_law 152 = .ok (.aload_n 0, 1) := by decide +kernel
theorem dL_law_153 : decode cL_law 153 = .ok (.iload 4, 2) := by decide +kernel
theorem dL_law_155 : decode cL_law 155 = .ok (.iconst 4, 1) := by decide +kernel
theorem dL_law_156 : decode cL_law 156 = .ok (.iadd, 1) := by decide +kernel
theorem dL_law_157 : decode cL_law 157 = .ok (.iaload, 1) := by decide +kernel
theorem dL_law_158 : decode cL_law 158 = .ok (.aload_n 0, 1) := by decide +kernel
theorem dL_law_159 : decode cL_law 159 = .ok (.iload 4, 2) := by decide +kernel
theorem dL_law_161 : decode cL_law 161 = .ok (.iconst 5, 1) := by decide +kernel
theorem dL_law_162 : decode cL_law 162 = .ok (.iadd, 1) := by decide +kernel
theorem dL_law_163 : decode cL_law 163 = .ok (.iaload, 1) := by decide +kernel
theorem dL_law_164 : decode cL_law 164 = .ok (.invokevirtual 59, 3) := by decide +kernel
theorem dL_law_167 : decode cL_law 167 = .ok (.istore 6, 2) := by decide +kernel
theorem dL_law_169 : decode cL_law 169 = .ok (.aload_n 2, 1) := by decide +kernel
theorem dL_law_170 : decode cL_law 170 = .ok (.invokevirtual 60, 3) := by decide +kernel
theorem dL_law_173 : decode cL_law 173 = .ok (.iload 5, 2) := by decide +kernel
theorem dL_law_175 : decode cL_law 175 = .ok (.if_icmp .eq 5, 3) := by decide +kernel
theorem dL_law_178 : decode cL_law 178 = .ok (.iconst 0, 1) := by decide +kernel
theorem dL_law_179 : decode cL_law 179 = .ok (.ireturn, 1) := by decide +kernel
theorem dL_law_180 : decode cL_law 180 = .ok (.iload 5, 2) := by decide +kernel
theorem dL_law_182 : decode cL_law 182 = .ok (.ifCond .ne 15, 3) := by decide +kernel
theorem dL_law_185 : decode cL_law 185 = .ok (.aload_n 3, 1) := by decide +kernel
theorem dL_law_186 : decode cL_law 186 = .ok (.iconst 0, 1) := by decide +kernel
theorem dL_law_187 : decode cL_law 187 = .ok (.laload, 1) := by decide +kernel
theorem dL_law_188 : decode cL_law 188 = .ok (.iload 6, 2) := by decide +kernel
theorem dL_law_190 : decode cL_law 190 = .ok (.i2l, 1) := by decide +kernel
theorem dL_law_191 : decode cL_law 191 = .ok (.lcmp, 1) := by decide +kernel
theorem dL_law_192 : decode cL_law 192 = .ok (.ifCond .eq 5, 3) := by decide +kernel
theorem dL_law_195 : decode cL_law 195 = .ok (.iconst 0, 1) := by decide +kernel
theorem dL_law_196 : decode cL_law 196 = .ok (.ireturn, 1) := by decide +kernel
theorem dL_law_197 : decode cL_law 197 = .ok (.goto 558, 3) := by decide +kernel
theorem dL_law_200 : decode cL_law 200 = .ok (.aload_n 1, 1) := by decide +kernel
theorem dL_law_201 : decode cL_law 201 = .ok (.invokevirtual 64, 3) := by decide +kernel
theorem dL_law_204 : decode cL_law 204 = .ok (.aload_n 2, 1) := by decide +kernel
theorem dL_law_205 : decode cL_law 205 = .ok (.invokevirtual 67, 3) := by decide +kernel
theorem dL_law_208 : decode cL_law 208 = .ok (.goto 547, 3) := by decide +kernel
theorem dL_law_211 : decode cL_law 211 = .ok (.aload_n 1, 1) := by decide +kernel
theorem dL_law_212 : decode cL_law 212 = .ok (.aload_n 0, 1) := by decide +kernel
theorem dL_law_213 : decode cL_law 213 = .ok (.iload 4, 2) := by decide +kernel
theorem dL_law_215 : decode cL_law 215 = .ok (.iconst 1, 1) := by decide +kernel
theorem dL_law_216 : decode cL_law 216 = .ok (.iadd, 1) := by decide +kernel
theorem dL_law_217 : decode cL_law 217 = .ok (.iaload, 1) := by decide +kernel
theorem dL_law_218 : decode cL_law 218 = .ok (.aload_n 0, 1) := by decide +kernel
theorem dL_law_219 : decode cL_law 219 = .ok (.iload 4, 2) := by decide +kernel
theorem dL_law_221 : decode cL_law 221 = .ok (.iconst 2, 1) := by decide +kernel
theorem dL_law_222 : decode cL_law 222 = .ok (.iadd, 1) := by decide +kernel
theorem dL_law_223 : decode cL_law 223 = .ok (.iaload, 1) := by decide +kernel
theorem dL_law_224 : decode cL_law 224 = .ok (.aload_n 0, 1) := by decide +kernel
theorem dL_law_225 : decode cL_law 225 = .ok (.iload 4, 2) := by decide +kernel
theorem dL_law_227 : decode cL_law 227 = .ok (.iconst 3, 1) := by decide +kernel
theorem dL_law_228 : decode cL_law 228 = .ok (.iadd, 1) := by decide +kernel
theorem dL_law_229 : decode cL_law 229 = .ok (.iaload, 1) := by decide +kernel
theorem dL_law_230 : decode cL_law 230 = .ok (.aload_n 0, 1) := by decide +kernel
theorem dL_law_231 : decode cL_law 231 = .ok (.iload 4, 2) := by decide +kernel
theorem dL_law_233 : decode cL_law 233 = .ok (.iconst 4, 1) := by decide +kernel
theorem dL_law_234 : decode cL_law 234 = .ok (.iadd, 1) := by decide +kernel
theorem dL_law_235 : decode cL_law 235 = .ok (.iaload, 1) := by decide +kernel
theorem dL_law_236 : decode cL_law 236 = .ok (.aload_n 3, 1) := by decide +kernel
theorem dL_law_237 : decode cL_law 237 = .ok (.invokestatic 68, 3) := by decide +kernel
theorem dL_law_240 : decode cL_law 240 = .ok (.istore 5, 2) := by decide +kernel
theorem dL_law_242 : decode cL_law 242 = .ok (.aload_n 2, 1) := by decide +kernel
theorem dL_law_243 : decode cL_law 243 = .ok (.aload_n 0, 1) := by decide +kernel
theorem dL_law_244 : decode cL_law 244 = .ok (.iload 4, 2) := by decide +kernel
theorem dL_law_246 : decode cL_law 246 = .ok (.iconst 1, 1) := by decide +kernel
theorem dL_law_247 : decode cL_law 247 = .ok (.iadd, 1) := by decide +kernel
theorem dL_law_248 : decode cL_law 248 = .ok (.iaload, 1) := by decide +kernel
theorem dL_law_249 : decode cL_law 249 = .ok (.aload_n 0, 1) := by decide +kernel
theorem dL_law_250 : decode cL_law 250 = .ok (.iload 4, 2) := by decide +kernel
theorem dL_law_252 : decode cL_law 252 = .ok (.iconst 2, 1) := by decide +kernel
theorem dL_law_253 : decode cL_law 253 = .ok (.iadd, 1) := by decide +kernel
theorem dL_law_254 : decode cL_law 254 = .ok (.iaload, 1) := by decide +kernel
theorem dL_law_255 : decode cL_law 255 = .ok (.aload_n 0, 1) := by decide +kernel
theorem dL_law_256 : decode cL_law 256 = .ok (.iload 4, 2) := by decide +kernel
theorem dL_law_258 : decode cL_law 258 = .ok (.iconst 3, 1) := by decide +kernel
theorem dL_law_259 : decode cL_law 259 = .ok (.iadd, 1) := by decide +kernel
theorem dL_law_260 : decode cL_law 260 = .ok (.iaload, 1) := by decide +kernel
theorem dL_law_261 : decode cL_law 261 = .ok (.aload_n 0, 1) := by decide +kernel
theorem dL_law_262 : decode cL_law 262 = .ok (.iload 4, 2) := by decide +kernel
theorem dL_law_264 : decode cL_law 264 = .ok (.iconst 4, 1) := by decide +kernel
theorem dL_law_265 : decode cL_law 265 = .ok (.iadd, 1) := by decide +kernel
theorem dL_law_266 : decode cL_law 266 = .ok (.iaload, 1) := by decide +kernel
theorem dL_law_267 : decode cL_law 267 = .ok (.invokevirtual 71, 3) := by decide +kernel
theorem dL_law_270 : decode cL_law 270 = .ok (.istore 6, 2) := by decide +kernel
theorem dL_law_272 : decode cL_law 272 = .ok (.aload_n 2, 1) := by decide +kernel
theorem dL_law_273 : decode cL_law 273 = .ok (.invokevirtual 60, 3) := by decide +kernel
theorem dL_law_276 : decode cL_law 276 = .ok (.iload 5, 2) := by decide +kernel
theorem dL_law_278 : decode cL_law 278 = .ok (.if_icmp .eq 5, 3) := by decide +kernel
theorem dL_law_281 : decode cL_law 281 = .ok (.iconst 0, 1) := by decide +kernel
theorem dL_law_282 : decode cL_law 282 = .ok (.ireturn, 1) := by decide +kernel
theorem dL_law_283 : decode cL_law 283 = .ok (.iload 5, 2) := by decide +kernel
theorem dL_law_285 : decode cL_law 285 = .ok (.ifCond .ne 15, 3) := by decide +kernel
theorem dL_law_288 : decode cL_law 288 = .ok (.aload_n 3, 1) := by decide +kernel
theorem dL_law_289 : decode cL_law 289 = .ok (.iconst 0, 1) := by decide +kernel
theorem dL_law_290 : decode cL_law 290 = .ok (.laload, 1) := by decide +kernel
theorem dL_law_291 : decode cL_law 291 = .ok (.iload 6, 2) := by decide +kernel
theorem dL_law_293 : decode cL_law 293 = .ok (.i2l, 1) := by decide +kernel
theorem dL_law_294 : decode cL_law 294 = .ok (.lcmp, 1) := by decide +kernel
theorem dL_law_295 : decode cL_law 295 = .ok (.ifCond .eq 5, 3) := by decide +kernel
theorem dL_law_298 : decode cL_law 298 = .ok (.iconst 0, 1) := by decide +kernel
theorem dL_law_299 : decode cL_law 299 = .ok (.ireturn, 1) := by decide +kernel
theorem dL_law_300 : decode cL_law 300 = .ok (.goto 455, 3) := by decide +kernel
theorem dL_law_303 : decode cL_law 303 = .ok (.aload_n 1, 1) := by decide +kernel
theorem dL_law_304 : decode cL_law 304 = .ok (.aload_n 0, 1) := by decide +kernel
theorem dL_law_305 : decode cL_law 305 = .ok (.iload 4, 2) := by decide +kernel
theorem dL_law_307 : decode cL_law 307 = .ok (.iconst 1, 1) := by decide +kernel
theorem dL_law_308 : decode cL_law 308 = .ok (.iadd, 1) := by decide +kernel
theorem dL_law_309 : decode cL_law 309 = .ok (.iaload, 1) := by decide +kernel
theorem dL_law_310 : decode cL_law 310 = .ok (.aload_n 3, 1) := by decide +kernel
theorem dL_law_311 : decode cL_law 311 = .ok (.invokestatic 72, 3) := by decide +kernel
theorem dL_law_314 : decode cL_law 314 = .ok (.istore 5, 2) := by decide +kernel
theorem dL_law_316 : decode cL_law 316 = .ok (.aload_n 2, 1) := by decide +kernel
theorem dL_law_317 : decode cL_law 317 = .ok (.aload_n 0, 1) := by decide +kernel
theorem dL_law_318 : decode cL_law 318 = .ok (.iload 4, 2) := by decide +kernel
theorem dL_law_320 : decode cL_law 320 = .ok (.iconst 1, 1) := by decide +kernel
theorem dL_law_321 : decode cL_law 321 = .ok (.iadd, 1) := by decide +kernel
theorem dL_law_322 : decode cL_law 322 = .ok (.iaload, 1) := by decide +kernel
theorem dL_law_323 : decode cL_law 323 = .ok (.invokevirtual 75, 3) := by decide +kernel
theorem dL_law_326 : decode cL_law 326 = .ok (.istore 6, 2) := by decide +kernel
theorem dL_law_328 : decode cL_law 328 = .ok (.aload_n 2, 1) := by decide +kernel
theorem dL_law_329 : decode cL_law 329 = .ok (.invokevirtual 60, 3) := by decide +kernel
theorem dL_law_332 : decode cL_law 332 = .ok (.iload 5, 2) := by decide +kernel
theorem dL_law_334 : decode cL_law 334 = .ok (.if_icmp .eq 5, 3) := by decide +kernel
theorem dL_law_337 : decode cL_law 337 = .ok (.iconst 0, 1) := by decide +kernel
theorem dL_law_338 : decode cL_law 338 = .ok (.ireturn, 1) := by decide +kernel
theorem dL_law_339 : decode cL_law 339 = .ok (.iload 5, 2) := by decide +kernel
theorem dL_law_341 : decode cL_law 341 = .ok (.ifCond .ne 15, 3) := by decide +kernel
theorem dL_law_344 : decode cL_law 344 = .ok (.aload_n 3, 1) := by decide +kernel
theorem dL_law_345 : decode cL_law 345 = .ok (.iconst 0, 1) := by decide +kernel
theorem dL_law_346 : decode cL_law 346 = .ok (.laload, 1) := by decide +kernel
theorem dL_law_347 : decode cL_law 347 = .ok (.iload 6, 2) := by decide +kernel
theorem dL_law_349 : decode cL_law 349 = .ok (.i2l, 1) := by decide +kernel
theorem dL_law_350 : decode cL_law 350 = .ok (.lcmp, 1) := by decide +kernel
theorem dL_law_351 : decode cL_law 351 = .ok (.ifCond .eq 5, 3) := by decide +kernel
theorem dL_law_354 : decode cL_law 354 = .ok (.iconst 0, 1) := by decide +kernel
theorem dL_law_355 : decode cL_law 355 = .ok (.ireturn, 1) := by decide +kernel
theorem dL_law_356 : decode cL_law 356 = .ok (.goto 399, 3) := by decide +kernel
theorem dL_law_359 : decode cL_law 359 = .ok (.aload_n 1, 1) := by decide +kernel
theorem dL_law_360 : decode cL_law 360 = .ok (.aload_n 0, 1) := by decide +kernel
theorem dL_law_361 : decode cL_law 361 = .ok (.iload 4, 2) := by decide +kernel
theorem dL_law_363 : decode cL_law 363 = .ok (.iconst 1, 1) := by decide +kernel
theorem dL_law_364 : decode cL_law 364 = .ok (.iadd, 1) := by decide +kernel
theorem dL_law_365 : decode cL_law 365 = .ok (.iaload, 1) := by decide +kernel
theorem dL_law_366 : decode cL_law 366 = .ok (.aload_n 0, 1) := by decide +kernel
theorem dL_law_367 : decode cL_law 367 = .ok (.iload 4, 2) := by decide +kernel
theorem dL_law_369 : decode cL_law 369 = .ok (.iconst 2, 1) := by decide +kernel
theorem dL_law_370 : decode cL_law 370 = .ok (.iadd, 1) := by decide +kernel
theorem dL_law_371 : decode cL_law 371 = .ok (.iaload, 1) := by decide +kernel
theorem dL_law_372 : decode cL_law 372 = .ok (.aload_n 3, 1) := by decide +kernel
theorem dL_law_373 : decode cL_law 373 = .ok (.invokestatic 76, 3) := by decide +kernel
theorem dL_law_376 : decode cL_law 376 = .ok (.istore 5, 2) := by decide +kernel
theorem dL_law_378 : decode cL_law 378 = .ok (.aload_n 2, 1) := by decide +kernel
theorem dL_law_379 : decode cL_law 379 = .ok (.aload_n 0, 1) := by decide +kernel
theorem dL_law_380 : decode cL_law 380 = .ok (.iload 4, 2) := by decide +kernel
theorem dL_law_382 : decode cL_law 382 = .ok (.iconst 1, 1) := by decide +kernel
theorem dL_law_383 : decode cL_law 383 = .ok (.iadd, 1) := by decide +kernel
theorem dL_law_384 : decode cL_law 384 = .ok (.iaload, 1) := by decide +kernel
theorem dL_law_385 : decode cL_law 385 = .ok (.aload_n 0, 1) := by decide +kernel
theorem dL_law_386 : decode cL_law 386 = .ok (.iload 4, 2) := by decide +kernel
theorem dL_law_388 : decode cL_law 388 = .ok (.iconst 2, 1) := by decide +kernel
theorem dL_law_389 : decode cL_law 389 = .ok (.iadd, 1) := by decide +kernel
theorem dL_law_390 : decode cL_law 390 = .ok (.iaload, 1) := by decide +kernel
theorem dL_law_391 : decode cL_law 391 = .ok (.invokevirtual 79, 3) := by decide +kernel
theorem dL_law_394 : decode cL_law 394 = .ok (.istore 6, 2) := by decide +kernel
theorem dL_law_396 : decode cL_law 396 = .ok (.aload_n 2, 1) := by decide +kernel
theorem dL_law_397 : decode cL_law 397 = .ok (.invokevirtual 60, 3) := by decide +kernel
theorem dL_law_400 : decode cL_law 400 = .ok (.iload 5, 2) := by decide +kernel
theorem dL_law_402 : decode cL_law 402 = .ok (.if_icmp .eq 5, 3) := by decide +kernel
theorem dL_law_405 : decode cL_law 405 = .ok (.iconst 0, 1) := by decide +kernel
theorem dL_law_406 : decode cL_law 406 = .ok (.ireturn, 1) := by decide +kernel
theorem dL_law_407 : decode cL_law 407 = .ok (.iload 5, 2) := by decide +kernel
theorem dL_law_409 : decode cL_law 409 = .ok (.ifCond .ne 15, 3) := by decide +kernel
theorem dL_law_412 : decode cL_law 412 = .ok (.aload_n 3, 1) := by decide +kernel
theorem dL_law_413 : decode cL_law 413 = .ok (.iconst 0, 1) := by decide +kernel
theorem dL_law_414 : decode cL_law 414 = .ok (.laload, 1) := by decide +kernel
theorem dL_law_415 : decode cL_law 415 = .ok (.iload 6, 2) := by decide +kernel
theorem dL_law_417 : decode cL_law 417 = .ok (.i2l, 1) := by decide +kernel
theorem dL_law_418 : decode cL_law 418 = .ok (.lcmp, 1) := by decide +kernel
theorem dL_law_419 : decode cL_law 419 = .ok (.ifCond .eq 5, 3) := by decide +kernel
theorem dL_law_422 : decode cL_law 422 = .ok (.iconst 0, 1) := by decide +kernel
theorem dL_law_423 : decode cL_law 423 = .ok (.ireturn, 1) := by decide +kernel
theorem dL_law_424 : decode cL_law 424 = .ok (.goto 331, 3) := by decide +kernel
theorem dL_law_427 : decode cL_law 427 = .ok (.aload_n 1, 1) := by decide +kernel
theorem dL_law_428 : decode cL_law 428 = .ok (.aload_n 0, 1) := by decide +kernel
theorem dL_law_429 : decode cL_law 429 = .ok (.iload 4, 2) := by decide +kernel
theorem dL_law_431 : decode cL_law 431 = .ok (.iconst 1, 1) := by decide +kernel
theorem dL_law_432 : decode cL_law 432 = .ok (.iadd, 1) := by decide +kernel
theorem dL_law_433 : decode cL_law 433 = .ok (.iaload, 1) := by decide +kernel
theorem dL_law_434 : decode cL_law 434 = .ok (.aload_n 0, 1) := by decide +kernel
theorem dL_law_435 : decode cL_law 435 = .ok (.iload 4, 2) := by decide +kernel
theorem dL_law_437 : decode cL_law 437 = .ok (.iconst 2, 1) := by decide +kernel
theorem dL_law_438 : decode cL_law 438 = .ok (.iadd, 1) := by decide +kernel
theorem dL_law_439 : decode cL_law 439 = .ok (.iaload, 1) := by decide +kernel
theorem dL_law_440 : decode cL_law 440 = .ok (.aload_n 0, 1) := by decide +kernel
theorem dL_law_441 : decode cL_law 441 = .ok (.iload 4, 2) := by decide +kernel
theorem dL_law_443 : decode cL_law 443 = .ok (.iconst 3, 1) := by decide +kernel
theorem dL_law_444 : decode cL_law 444 = .ok (.iadd, 1) := by decide +kernel
theorem dL_law_445 : decode cL_law 445 = .ok (.iaload, 1) := by decide +kernel
theorem dL_law_446 : decode cL_law 446 = .ok (.aload_n 0, 1) := by decide +kernel
theorem dL_law_447 : decode cL_law 447 = .ok (.iload 4, 2) := by decide +kernel
theorem dL_law_449 : decode cL_law 449 = .ok (.iconst 4, 1) := by decide +kernel
theorem dL_law_450 : decode cL_law 450 = .ok (.iadd, 1) := by decide +kernel
theorem dL_law_451 : decode cL_law 451 = .ok (.iaload, 1) := by decide +kernel
theorem dL_law_452 : decode cL_law 452 = .ok (.aload_n 3, 1) := by decide +kernel
theorem dL_law_453 : decode cL_law 453 = .ok (.invokestatic 80, 3) := by decide +kernel
theorem dL_law_456 : decode cL_law 456 = .ok (.istore 5, 2) := by decide +kernel
theorem dL_law_458 : decode cL_law 458 = .ok (.aload_n 2, 1) := by decide +kernel
theorem dL_law_459 : decode cL_law 459 = .ok (.aload_n 0, 1) := by decide +kernel
theorem dL_law_460 : decode cL_law 460 = .ok (.iload 4, 2) := by decide +kernel
theorem dL_law_462 : decode cL_law 462 = .ok (.iconst 1, 1) := by decide +kernel
theorem dL_law_463 : decode cL_law 463 = .ok (.iadd, 1) := by decide +kernel
theorem dL_law_464 : decode cL_law 464 = .ok (.iaload, 1) := by decide +kernel
theorem dL_law_465 : decode cL_law 465 = .ok (.aload_n 0, 1) := by decide +kernel
theorem dL_law_466 : decode cL_law 466 = .ok (.iload 4, 2) := by decide +kernel
theorem dL_law_468 : decode cL_law 468 = .ok (.iconst 2, 1) := by decide +kernel
theorem dL_law_469 : decode cL_law 469 = .ok (.iadd, 1) := by decide +kernel
theorem dL_law_470 : decode cL_law 470 = .ok (.iaload, 1) := by decide +kernel
theorem dL_law_471 : decode cL_law 471 = .ok (.aload_n 0, 1) := by decide +kernel
theorem dL_law_472 : decode cL_law 472 = .ok (.iload 4, 2) := by decide +kernel
theorem dL_law_474 : decode cL_law 474 = .ok (.iconst 3, 1) := by decide +kernel
theorem dL_law_475 : decode cL_law 475 = .ok (.iadd, 1) := by decide +kernel
theorem dL_law_476 : decode cL_law 476 = .ok (.iaload, 1) := by decide +kernel
theorem dL_law_477 : decode cL_law 477 = .ok (.aload_n 0, 1) := by decide +kernel
theorem dL_law_478 : decode cL_law 478 = .ok (.iload 4, 2) := by decide +kernel
theorem dL_law_480 : decode cL_law 480 = .ok (.iconst 4, 1) := by decide +kernel
theorem dL_law_481 : decode cL_law 481 = .ok (.iadd, 1) := by decide +kernel
theorem dL_law_482 : decode cL_law 482 = .ok (.iaload, 1) := by decide +kernel
theorem dL_law_483 : decode cL_law 483 = .ok (.invokevirtual 82, 3) := by decide +kernel
theorem dL_law_486 : decode cL_law 486 = .ok (.istore 6, 2) := by decide +kernel
theorem dL_law_488 : decode cL_law 488 = .ok (.aload_n 2, 1) := by decide +kernel
theorem dL_law_489 : decode cL_law 489 = .ok (.invokevirtual 60, 3) := by decide +kernel
theorem dL_law_492 : decode cL_law 492 = .ok (.iload 5, 2) := by decide +kernel
theorem dL_law_494 : decode cL_law 494 = .ok (.if_icmp .eq 5, 3) := by decide +kernel
theorem dL_law_497 : decode cL_law 497 = .ok (.iconst 0, 1) := by decide +kernel
theorem dL_law_498 : decode cL_law 498 = .ok (.ireturn, 1) := by decide +kernel
theorem dL_law_499 : decode cL_law 499 = .ok (.iload 5, 2) := by decide +kernel
theorem dL_law_501 : decode cL_law 501 = .ok (.ifCond .ne 15, 3) := by decide +kernel
theorem dL_law_504 : decode cL_law 504 = .ok (.aload_n 3, 1) := by decide +kernel
theorem dL_law_505 : decode cL_law 505 = .ok (.iconst 0, 1) := by decide +kernel
theorem dL_law_506 : decode cL_law 506 = .ok (.laload, 1) := by decide +kernel
theorem dL_law_507 : decode cL_law 507 = .ok (.iload 6, 2) := by decide +kernel
theorem dL_law_509 : decode cL_law 509 = .ok (.i2l, 1) := by decide +kernel
theorem dL_law_510 : decode cL_law 510 = .ok (.lcmp, 1) := by decide +kernel
theorem dL_law_511 : decode cL_law 511 = .ok (.ifCond .eq 5, 3) := by decide +kernel
theorem dL_law_514 : decode cL_law 514 = .ok (.iconst 0, 1) := by decide +kernel
theorem dL_law_515 : decode cL_law 515 = .ok (.ireturn, 1) := by decide +kernel
theorem dL_law_516 : decode cL_law 516 = .ok (.goto 239, 3) := by decide +kernel
theorem dL_law_519 : decode cL_law 519 = .ok (.aload_n 1, 1) := by decide +kernel
theorem dL_law_520 : decode cL_law 520 = .ok (.aload_n 0, 1) := by decide +kernel
theorem dL_law_521 : decode cL_law 521 = .ok (.iload 4, 2) := by decide +kernel
theorem dL_law_523 : decode cL_law 523 = .ok (.iconst 1, 1) := by decide +kernel
theorem dL_law_524 : decode cL_law 524 = .ok (.iadd, 1) := by decide +kernel
theorem dL_law_525 : decode cL_law 525 = .ok (.iaload, 1) := by decide +kernel
theorem dL_law_526 : decode cL_law 526 = .ok (.aload_n 3, 1) := by decide +kernel
theorem dL_law_527 : decode cL_law 527 = .ok (.invokestatic 83, 3) := by decide +kernel
theorem dL_law_530 : decode cL_law 530 = .ok (.istore 5, 2) := by decide +kernel
theorem dL_law_532 : decode cL_law 532 = .ok (.aload_n 2, 1) := by decide +kernel
theorem dL_law_533 : decode cL_law 533 = .ok (.aload_n 0, 1) := by decide +kernel
theorem dL_law_534 : decode cL_law 534 = .ok (.iload 4, 2) := by decide +kernel
theorem dL_law_536 : decode cL_law 536 = .ok (.iconst 1, 1) := by decide +kernel
theorem dL_law_537 : decode cL_law 537 = .ok (.iadd, 1) := by decide +kernel
theorem dL_law_538 : decode cL_law 538 = .ok (.iaload, 1) := by decide +kernel
theorem dL_law_539 : decode cL_law 539 = .ok (.invokevirtual 85, 3) := by decide +kernel
theorem dL_law_542 : decode cL_law 542 = .ok (.istore 6, 2) := by decide +kernel
theorem dL_law_544 : decode cL_law 544 = .ok (.aload_n 2, 1) := by decide +kernel
theorem dL_law_545 : decode cL_law 545 = .ok (.invokevirtual 60, 3) := by decide +kernel
theorem dL_law_548 : decode cL_law 548 = .ok (.iload 5, 2) := by decide +kernel
theorem dL_law_550 : decode cL_law 550 = .ok (.if_icmp .eq 5, 3) := by decide +kernel
theorem dL_law_553 : decode cL_law 553 = .ok (.iconst 0, 1) := by decide +kernel
theorem dL_law_554 : decode cL_law 554 = .ok (.ireturn, 1) := by decide +kernel
theorem dL_law_555 : decode cL_law 555 = .ok (.iload 5, 2) := by decide +kernel
theorem dL_law_557 : decode cL_law 557 = .ok (.ifCond .ne 15, 3) := by decide +kernel
theorem dL_law_560 : decode cL_law 560 = .ok (.aload_n 3, 1) := by decide +kernel
theorem dL_law_561 : decode cL_law 561 = .ok (.iconst 0, 1) := by decide +kernel
theorem dL_law_562 : decode cL_law 562 = .ok (.laload, 1) := by decide +kernel
theorem dL_law_563 : decode cL_law 563 = .ok (.iload 6, 2) := by decide +kernel
theorem dL_law_565 : decode cL_law 565 = .ok (.i2l, 1) := by decide +kernel
theorem dL_law_566 : decode cL_law 566 = .ok (.lcmp, 1) := by decide +kernel
theorem dL_law_567 : decode cL_law 567 = .ok (.ifCond .eq 5, 3) := by decide +kernel
theorem dL_law_570 : decode cL_law 570 = .ok (.iconst 0, 1) := by decide +kernel
theorem dL_law_571 : decode cL_law 571 = .ok (.ireturn, 1) := by decide +kernel
theorem dL_law_572 : decode cL_law 572 = .ok (.goto 183, 3) := by decide +kernel
theorem dL_law_575 : decode cL_law 575 = .ok (.aload_n 1, 1) := by decide +kernel
theorem dL_law_576 : decode cL_law 576 = .ok (.aload_n 0, 1) := by decide +kernel
theorem dL_law_577 : decode cL_law 577 = .ok (.iload 4, 2) := by decide +kernel
theorem dL_law_579 : decode cL_law 579 = .ok (.iconst 1, 1) := by decide +kernel
theorem dL_law_580 : decode cL_law 580 = .ok (.iadd, 1) := by decide +kernel
theorem dL_law_581 : decode cL_law 581 = .ok (.iaload, 1) := by decide +kernel
theorem dL_law_582 : decode cL_law 582 = .ok (.aload_n 0, 1) := by decide +kernel
theorem dL_law_583 : decode cL_law 583 = .ok (.iload 4, 2) := by decide +kernel
theorem dL_law_585 : decode cL_law 585 = .ok (.iconst 2, 1) := by decide +kernel
theorem dL_law_586 : decode cL_law 586 = .ok (.iadd, 1) := by decide +kernel
theorem dL_law_587 : decode cL_law 587 = .ok (.iaload, 1) := by decide +kernel
theorem dL_law_588 : decode cL_law 588 = .ok (.aload_n 3, 1) := by decide +kernel
theorem dL_law_589 : decode cL_law 589 = .ok (.invokestatic 86, 3) := by decide +kernel
theorem dL_law_592 : decode cL_law 592 = .ok (.istore 5, 2) := by decide +kernel
theorem dL_law_594 : decode cL_law 594 = .ok (.aload_n 2, 1) := by decide +kernel
theorem dL_law_595 : decode cL_law 595 = .ok (.aload_n 0, 1) := by decide +kernel
theorem dL_law_596 : decode cL_law 596 = .ok (.iload 4, 2) := by decide +kernel
theorem dL_law_598 : decode cL_law 598 = .ok (.iconst 1, 1) := by decide +kernel
theorem dL_law_599 : decode cL_law 599 = .ok (.iadd, 1) := by decide +kernel
theorem dL_law_600 : decode cL_law 600 = .ok (.iaload, 1) := by decide +kernel
theorem dL_law_601 : decode cL_law 601 = .ok (.aload_n 0, 1) := by decide +kernel
theorem dL_law_602 : decode cL_law 602 = .ok (.iload 4, 2) := by decide +kernel
theorem dL_law_604 : decode cL_law 604 = .ok (.iconst 2, 1) := by decide +kernel
theorem dL_law_605 : decode cL_law 605 = .ok (.iadd, 1) := by decide +kernel
theorem dL_law_606 : decode cL_law 606 = .ok (.iaload, 1) := by decide +kernel
theorem dL_law_607 : decode cL_law 607 = .ok (.invokevirtual 88, 3) := by decide +kernel
theorem dL_law_610 : decode cL_law 610 = .ok (.istore 6, 2) := by decide +kernel
theorem dL_law_612 : decode cL_law 612 = .ok (.aload_n 2, 1) := by decide +kernel
theorem dL_law_613 : decode cL_law 613 = .ok (.invokevirtual 60, 3) := by decide +kernel
theorem dL_law_616 : decode cL_law 616 = .ok (.iload 5, 2) := by decide +kernel
theorem dL_law_618 : decode cL_law 618 = .ok (.if_icmp .eq 5, 3) := by decide +kernel
theorem dL_law_621 : decode cL_law 621 = .ok (.iconst 0, 1) := by decide +kernel
theorem dL_law_622 : decode cL_law 622 = .ok (.ireturn, 1) := by decide +kernel
theorem dL_law_623 : decode cL_law 623 = .ok (.iload 5, 2) := by decide +kernel
theorem dL_law_625 : decode cL_law 625 = .ok (.ifCond .ne 15, 3) := by decide +kernel
theorem dL_law_628 : decode cL_law 628 = .ok (.aload_n 3, 1) := by decide +kernel
theorem dL_law_629 : decode cL_law 629 = .ok (.iconst 0, 1) := by decide +kernel
theorem dL_law_630 : decode cL_law 630 = .ok (.laload, 1) := by decide +kernel
theorem dL_law_631 : decode cL_law 631 = .ok (.iload 6, 2) := by decide +kernel
theorem dL_law_633 : decode cL_law 633 = .ok (.i2l, 1) := by decide +kernel
theorem dL_law_634 : decode cL_law 634 = .ok (.lcmp, 1) := by decide +kernel
theorem dL_law_635 : decode cL_law 635 = .ok (.ifCond .eq 5, 3) := by decide +kernel
theorem dL_law_638 : decode cL_law 638 = .ok (.iconst 0, 1) := by decide +kernel
theorem dL_law_639 : decode cL_law 639 = .ok (.ireturn, 1) := by decide +kernel
theorem dL_law_640 : decode cL_law 640 = .ok (.goto 115, 3) := by decide +kernel
theorem dL_law_643 : decode cL_law 643 = .ok (.aload_n 1, 1) := by decide +kernel
theorem dL_law_644 : decode cL_law 644 = .ok (.aload_n 0, 1) := by decide +kernel
theorem dL_law_645 : decode cL_law 645 = .ok (.iload 4, 2) := by decide +kernel
theorem dL_law_647 : decode cL_law 647 = .ok (.iconst 1, 1) := by decide +kernel
theorem dL_law_648 : decode cL_law 648 = .ok (.iadd, 1) := by decide +kernel
theorem dL_law_649 : decode cL_law 649 = .ok (.iaload, 1) := by decide +kernel
theorem dL_law_650 : decode cL_law 650 = .ok (.aload_n 3, 1) := by decide +kernel
theorem dL_law_651 : decode cL_law 651 = .ok (.invokestatic 89, 3) := by decide +kernel
theorem dL_law_654 : decode cL_law 654 = .ok (.istore 5, 2) := by decide +kernel
theorem dL_law_656 : decode cL_law 656 = .ok (.aload_n 2, 1) := by decide +kernel
theorem dL_law_657 : decode cL_law 657 = .ok (.aload_n 0, 1) := by decide +kernel
theorem dL_law_658 : decode cL_law 658 = .ok (.iload 4, 2) := by decide +kernel
theorem dL_law_660 : decode cL_law 660 = .ok (.iconst 1, 1) := by decide +kernel
theorem dL_law_661 : decode cL_law 661 = .ok (.iadd, 1) := by decide +kernel
theorem dL_law_662 : decode cL_law 662 = .ok (.iaload, 1) := by decide +kernel
theorem dL_law_663 : decode cL_law 663 = .ok (.invokevirtual 91, 3) := by decide +kernel
theorem dL_law_666 : decode cL_law 666 = .ok (.istore 6, 2) := by decide +kernel
theorem dL_law_668 : decode cL_law 668 = .ok (.aload_n 2, 1) := by decide +kernel
theorem dL_law_669 : decode cL_law 669 = .ok (.invokevirtual 60, 3) := by decide +kernel
theorem dL_law_672 : decode cL_law 672 = .ok (.iload 5, 2) := by decide +kernel
theorem dL_law_674 : decode cL_law 674 = .ok (.if_icmp .eq 5, 3) := by decide +kernel
theorem dL_law_677 : decode cL_law 677 = .ok (.iconst 0, 1) := by decide +kernel
theorem dL_law_678 : decode cL_law 678 = .ok (.ireturn, 1) := by decide +kernel
theorem dL_law_679 : decode cL_law 679 = .ok (.iload 5, 2) := by decide +kernel
theorem dL_law_681 : decode cL_law 681 = .ok (.ifCond .ne 15, 3) := by decide +kernel
theorem dL_law_684 : decode cL_law 684 = .ok (.aload_n 3, 1) := by decide +kernel
theorem dL_law_685 : decode cL_law 685 = .ok (.iconst 0, 1) := by decide +kernel
theorem dL_law_686 : decode cL_law 686 = .ok (.laload, 1) := by decide +kernel
theorem dL_law_687 : decode cL_law 687 = .ok (.iload 6, 2) := by decide +kernel
theorem dL_law_689 : decode cL_law 689 = .ok (.i2l, 1) := by decide +kernel
theorem dL_law_690 : decode cL_law 690 = .ok (.lcmp, 1) := by decide +kernel
theorem dL_law_691 : decode cL_law 691 = .ok (.ifCond .eq 5, 3) := by decide +kernel
theorem dL_law_694 : decode cL_law 694 = .ok (.iconst 0, 1) := by decide +kernel
theorem dL_law_695 : decode cL_law 695 = .ok (.ireturn, 1) := by decide +kernel
theorem dL_law_696 : decode cL_law 696 = .ok (.goto 59, 3) := by decide +kernel
theorem dL_law_699 : decode cL_law 699 = .ok (.aload_n 1, 1) := by decide +kernel
theorem dL_law_700 : decode cL_law 700 = .ok (.aload_n 0, 1) := by decide +kernel
theorem dL_law_701 : decode cL_law 701 = .ok (.iload 4, 2) := by decide +kernel
theorem dL_law_703 : decode cL_law 703 = .ok (.iconst 1, 1) := by decide +kernel
theorem dL_law_704 : decode cL_law 704 = .ok (.iadd, 1) := by decide +kernel
theorem dL_law_705 : decode cL_law 705 = .ok (.iaload, 1) := by decide +kernel
theorem dL_law_706 : decode cL_law 706 = .ok (.aload_n 3, 1) := by decide +kernel
theorem dL_law_707 : decode cL_law 707 = .ok (.invokestatic 92, 3) := by decide +kernel
theorem dL_law_710 : decode cL_law 710 = .ok (.istore 5, 2) := by decide +kernel
theorem dL_law_712 : decode cL_law 712 = .ok (.aload_n 2, 1) := by decide +kernel
theorem dL_law_713 : decode cL_law 713 = .ok (.aload_n 0, 1) := by decide +kernel
theorem dL_law_714 : decode cL_law 714 = .ok (.iload 4, 2) := by decide +kernel
theorem dL_law_716 : decode cL_law 716 = .ok (.iconst 1, 1) := by decide +kernel
theorem dL_law_717 : decode cL_law 717 = .ok (.iadd, 1) := by decide +kernel
theorem dL_law_718 : decode cL_law 718 = .ok (.iaload, 1) := by decide +kernel
theorem dL_law_719 : decode cL_law 719 = .ok (.invokevirtual 94, 3) := by decide +kernel
theorem dL_law_722 : decode cL_law 722 = .ok (.istore 6, 2) := by decide +kernel
theorem dL_law_724 : decode cL_law 724 = .ok (.aload_n 2, 1) := by decide +kernel
theorem dL_law_725 : decode cL_law 725 = .ok (.invokevirtual 60, 3) := by decide +kernel
theorem dL_law_728 : decode cL_law 728 = .ok (.iload 5, 2) := by decide +kernel
theorem dL_law_730 : decode cL_law 730 = .ok (.if_icmp .eq 5, 3) := by decide +kernel
theorem dL_law_733 : decode cL_law 733 = .ok (.iconst 0, 1) := by decide +kernel
theorem dL_law_734 : decode cL_law 734 = .ok (.ireturn, 1) := by decide +kernel
theorem dL_law_735 : decode cL_law 735 = .ok (.iload 5, 2) := by decide +kernel
theorem dL_law_737 : decode cL_law 737 = .ok (.ifCond .ne 15, 3) := by decide +kernel
theorem dL_law_740 : decode cL_law 740 = .ok (.aload_n 3, 1) := by decide +kernel
theorem dL_law_741 : decode cL_law 741 = .ok (.iconst 0, 1) := by decide +kernel
theorem dL_law_742 : decode cL_law 742 = .ok (.laload, 1) := by decide +kernel
theorem dL_law_743 : decode cL_law 743 = .ok (.iload 6, 2) := by decide +kernel
theorem dL_law_745 : decode cL_law 745 = .ok (.i2l, 1) := by decide +kernel
theorem dL_law_746 : decode cL_law 746 = .ok (.lcmp, 1) := by decide +kernel
theorem dL_law_747 : decode cL_law 747 = .ok (.ifCond .eq 5, 3) := by decide +kernel
theorem dL_law_750 : decode cL_law 750 = .ok (.iconst 0, 1) := by decide +kernel
theorem dL_law_751 : decode cL_law 751 = .ok (.ireturn, 1) := by decide +kernel
theorem dL_law_752 : decode cL_law 752 = .ok (.goto 3, 3) := by decide +kernel
theorem dL_law_755 : decode cL_law 755 = .ok (.iinc 4 6, 3) := by decide +kernel
theorem dL_law_758 : decode cL_law 758 = .ok (.goto (-735), 3) := by decide +kernel
theorem dL_law_761 : decode cL_law 761 = .ok (.iconst 1, 1) := by decide +kernel
theorem dL_law_762 : decode cL_law 762 = .ok (.ireturn, 1) := by decide +kernel
end
section
/-! A FLAT MEMORY: what the heap holds at an address, as a function; a judgement GW at (pc, locals, stack, memory); a row an instruction. -/
abbrev fm_M : Type := Nat → Option va_E
abbrev fm_G : Type := Launch × va_G × (Nat → ClassId)
/-- the heap holds the memory; its addresses are in A -/
def fm_P (D : va_G) (A : Nat → Prop) (M : fm_M) (H : Heap) : Prop := ∃ (L : List Nat) (f : Nat → va_E), (∀ a : Nat, M a = if a ∈ L then some (f a) else none) ∧ va_P D vwCl (va_pl L f) H ∧ va_D A (va_pl L f)
/-- what a method may change: its memory, and what it makes -/
def fm_A (M : fm_M) (sz : Nat) : Nat → Prop := fun q => (∃ e, M q = some e) ∨ sz ≤ q
def fm_set (M : fm_M) (a : Nat) (e : va_E) : fm_M := fun q => if q = a then some e else M q
theorem fm_set_eq (M : fm_M) (a : Nat) (e : va_E) : fm_set M a e a = some e := if_pos rfl
theorem fm_set_ne (M : fm_M) {a b : Nat} (e : va_E) (h : b ≠ a) : fm_set M a e b = M b := if_neg h
/-- kinds of contents: ints, longs, references, an object -/
abbrev fm_I (G : fm_G) (n : Nat) (f : Nat → Int32) : va_E := .inl (G.2.2 0, n, .inl f)
abbrev fm_L (G : fm_G) (n : Nat) (f : Nat → Int64) : va_E := .inl (G.2.2 1, n, .inr (.inl f))
abbrev fm_R (G : fm_G) (t n : Nat) (f : Nat → Option Nat) : va_E := .inl (G.2.2 t, n, .inr (.inr (.inr (.inr f))))
abbrev fm_O (ci : Nat) (fs : List Value) : va_E := .inr (ci, fs)
/-- locals by number -/
def fm_lk : List (Nat × Value) → Nat → Option Value
  | [], _ => none
  | (j, v) :: r, i => match Nat.beq j i with
    | true => some v
    | false => fm_lk r i
def fm_keep (i : Nat) (two : Bool) (q : Nat × Value) : Bool := !(Nat.beq q.1 i) && (!(two && Nat.beq q.1 (i + 1)) && !(Nat.beq (q.1 + 1) i && Nat.beq q.2.category 2))
def fm_put (two : Bool) (i : Nat) (v : Value) : List (Nat × Value) → List (Nat × Value)
  | [] => [(i, v)]
  | q :: r => match Nat.beq q.1 i with
    | true => (i, v) :: r.filter (fm_keep i two)
    | false => match fm_keep i two q with
      | true => q :: fm_put two i v r
      | false => fm_put two i v r
def fm_sel (ls : List (Nat × Value)) : List Nat → Option (List (Nat × Value))
  | [] => some []
  | k :: r => match fm_lk ls k with
    | some v => match fm_sel ls r with
      | some t => some ((k, v) :: t)
      | none => none
    | none => none
theorem fm_lk_mem {ls : List (Nat × Value)} {i : Nat} {v : Value} (h : fm_lk ls i = some v) : (i, v) ∈ ls := by
  induction ls with
  | nil => cases h
  | cons q r ih =>
    obtain ⟨j, w⟩ := q
    unfold fm_lk at h
    cases hb : Nat.beq j i with
    | true =>
      rw [hb] at h
      have e1 : j = i := Nat.eq_of_beq_eq_true hb
      have e2 : w = v := Option.some.inj h
      subst e1; subst e2
      exact List.mem_cons_self
    | false =>
      rw [hb] at h
      exact List.mem_cons_of_mem _ (ih h)
theorem fm_put_mem {two : Bool} {i : Nat} {v : Value} {ls : List (Nat × Value)} {q : Nat × Value} (h : q ∈ fm_put two i v ls) : q = (i, v) ∨ (q ∈ ls ∧ fm_keep i two q = true) := by
  induction ls with
  | nil => exact Or.inl (List.mem_singleton.mp h)
  | cons w r ih =>
    unfold fm_put at h
    cases hb : Nat.beq w.1 i with
    | true =>
      rw [hb] at h
      rcases List.mem_cons.mp h with h | h
      · exact Or.inl h
      · obtain ⟨h1, h2⟩ := List.mem_filter.mp h
        exact Or.inr ⟨List.mem_cons_of_mem _ h1, h2⟩
    | false =>
      rw [hb] at h
      cases hk : fm_keep i two w with
      | true =>
        rw [hk] at h
        rcases List.mem_cons.mp h with h | h
        · subst h
          exact Or.inr ⟨List.mem_cons_self, hk⟩
        · rcases ih h with h | h
          · exact Or.inl h
          · exact Or.inr ⟨List.mem_cons_of_mem _ h.1, h.2⟩
      | false =>
        rw [hk] at h
        rcases ih h with h | h
        · exact Or.inl h
        · exact Or.inr ⟨List.mem_cons_of_mem _ h.1, h.2⟩
theorem fm_sel_mem {ls ls' : List (Nat × Value)} {ks : List Nat} (h : fm_sel ls ks = some ls') : ∀ q ∈ ls', q ∈ ls := by
  induction ks generalizing ls' with
  | nil => cases h; intro q hq; cases hq
  | cons k r ih =>
    unfold fm_sel at h
    cases h1 : fm_lk ls k with
    | none => rw [h1] at h; cases h
    | some v =>
      rw [h1] at h
      cases h2 : fm_sel ls r with
      | none => rw [h2] at h; cases h
      | some t =>
        rw [h2] at h
        cases h
        intro q hq
        rcases List.mem_cons.mp hq with rfl | hq
        · exact fm_lk_mem h1
        · exact ih h2 q hq
theorem fm_lk_has {la : Array Slot} {nL : Nat} {ls : List (Nat × Value)} {i : Nat} {v : Value} (hv : lv_has la nL ls) (h : fm_lk ls i = some v) : la[i]? = some (.val v) := hv.2.2 (i, v) (fm_lk_mem h)
theorem fm_has_sub {la : Array Slot} {nL : Nat} {ls ls' : List (Nat × Value)} (hv : lv_has la nL ls) (h : ∀ q ∈ ls', q ∈ ls) : lv_has la nL ls' := ⟨hv.1, hv.2.1, fun q hq => hv.2.2 q (h q hq)⟩
theorem fm_beq (a b : Nat) : (a == b) = Nat.beq a b := by
  cases h : Nat.beq a b with
  | true => rw [Nat.eq_of_beq_eq_true h]; exact beq_self_eq_true b
  | false => exact beq_eq_false_iff_ne.mpr (Nat.ne_of_beq_eq_false h)
theorem fm_put1 {la : Array Slot} {nL i : Nat} {v : Value} {ls : List (Nat × Value)} (hv : lv_has la nL ((i, v) :: ls.filter (fun q => !(q.1 == i) && !(q.1 + 1 == i && q.2.category == 2)))) : lv_has la nL (fm_put false i v ls) := by
  refine fm_has_sub hv fun q hq => ?_
  rcases fm_put_mem hq with rfl | ⟨h1, h2⟩
  · exact List.mem_cons_self
  · refine List.mem_cons_of_mem _ (List.mem_filter.mpr ⟨h1, ?_⟩)
    simp only [fm_keep, Bool.false_and, Bool.not_false, Bool.true_and] at h2
    simp only [fm_beq]
    exact h2
theorem fm_put2 {la : Array Slot} {nL i : Nat} {v : Value} {ls : List (Nat × Value)} (hv : lv_has la nL ((i, v) :: ls.filter (fun q => !(q.1 == i) && (!(q.1 == i + 1) && !(q.1 + 1 == i && q.2.category == 2))))) : lv_has la nL (fm_put true i v ls) := by
  refine fm_has_sub hv fun q hq => ?_
  rcases fm_put_mem hq with rfl | ⟨h1, h2⟩
  · exact List.mem_cons_self
  · refine List.mem_cons_of_mem _ (List.mem_filter.mpr ⟨h1, ?_⟩)
    simp only [fm_keep, Bool.true_and] at h2
    simp only [fm_beq]
    exact h2
/-- the words that every method is proved under: those of the tables that stay -/
def fm_tbl : List Cond := lw_tbl.filter goodWord
/-- a run of a method: the machine, the method, its start, what it must end in, what it may change -/
abbrev fm_X : Type := Program × Env × Room × State × MethodId × Array Value × List Frame × Method × Code × (State → Prop) × (Nat → Prop)
/-- what the tables say of our classes and arrays; the links of private members -/
def fm_K (G : fm_G) (U : State) : Prop := va_K G.2.1 vwCl (fm_tys G.2.2) U ∧ (∀ q ∈ fm_nest, va_Nw (.methodLinkNest q.1 q.2.1 q.2.2.1 q.2.2.2) U) ∧ ∀ C ∈ fm_refs, va_AO C U
def fm_Z (A : Nat → Prop) (U : State) (H : Heap) : Prop := ∀ q ∈ fm_stat, vx_Zq q.1 q.2.1 q.2.2 A U H
/-- the judgement -/
def GW (G : fm_G) (X : fm_X) (nL : Nat) (M : fm_M) (kc ks pc : Nat) (ls : List (Nat × Value)) (st : List Value) : Prop := match X with
  | (p, e, R, s, m, args, below, meth, c, Q, A) => ∀ (H : Heap) (locs : List Loc) (la : Array Slot), fm_P G.2.1 A M H → va_S A s.heap H locs → lv_has la nL ls → W p G.1 e R s m args below meth c H locs kc ks Q (F0 m pc la st)
/-- what holds all through a method's run -/
def GC (G : fm_G) (X : fm_X) (own : String) (cc : ByteArray) (nL fr lo mc ms : Nat) : Prop := match X with
  | (p, _, R, s, m, args, _, meth, c, _, A) => p.tables.exec = Jvm.exec ∧ c.code = cc ∧ s.vm.findClass own = some m.cls ∧ (∀ w ∈ fm_tbl, w.before args s = true) ∧ fm_K G s ∧ (∀ q : Nat, s.heap.size ≤ q → A q) ∧ c.maxLocals = nL ∧ meth.locks = false ∧ (R.frames = fr ∧ R.locals = lo ∧ R.cells = mc ∧ R.slots = ms) ∧ fm_Z A s s.heap
theorem fm_P.at {D : va_G} {A : Nat → Prop} {M : fm_M} {H : Heap} (h : fm_P D A M H) {a : Nat} {e : va_E} (ha : M a = some e) : ∃ (L : List Nat) (f : Nat → va_E) (k : Nat), (∀ a : Nat, M a = if a ∈ L then some (f a) else none) ∧ va_P D vwCl (va_pl L f) H ∧ va_D A (va_pl L f) ∧ a ∈ L ∧ f a = e ∧ (va_pl L f)[k]? = some (a, e) := by
  obtain ⟨L, f, h1, h2, h3⟩ := h
  have h4 := h1 a
  rw [ha] at h4
  by_cases hm : a ∈ L
  · rw [if_pos hm] at h4
    have h5 : f a = e := (Option.some.inj h4).symm
    obtain ⟨k, hk⟩ := va_pl_get (X := []) (f := f) hm
    exact ⟨L, f, k, h1, h2, h3, hm, h5, by rw [← h5]; exact hk⟩
  · rw [if_neg hm] at h4
    cases h4
theorem fm_P.put {D : va_G} {A : Nat → Prop} {M : fm_M} {H1 : Heap} {L : List Nat} {f : Nat → va_E} {a k : Nat} {e e' : va_E} (h1 : ∀ a : Nat, M a = if a ∈ L then some (f a) else none) (hD : va_D A (va_pl L f)) (hm : a ∈ L) (he : f a = e) (hk : (va_pl L f)[k]? = some (a, e))
    (hP1 : va_P D vwCl ((va_pl L f).set k (a, e')) H1) (hD1 : va_D A ((va_pl L f).set k (a, e'))) : fm_P D A (fm_set M a e') H1 := by
  have hs : (va_pl L f).set k (a, e') = va_pl L (va_up f a e') := va_pl_set (X := []) hD hm (by rw [he]; exact hk)
  rw [hs] at hP1 hD1
  refine ⟨L, va_up f a e', fun b => ?_, hP1, hD1⟩
  by_cases hb : b = a
  · subst hb
    rw [fm_set_eq, if_pos hm, va_up_self]
  · rw [fm_set_ne _ _ hb, h1 b, va_up_ne _ _ hb]
theorem fm_P.new {D : va_G} {A : Nat → Prop} {M : fm_M} {H1 : Heap} {L : List Nat} {f : Nat → va_E} {q : Nat} {e : va_E} (h1 : ∀ a : Nat, M a = if a ∈ L then some (f a) else none)
    (hP1 : va_P D vwCl (va_pl L f ++ [(q, e)]) H1) (hD1 : va_D A (va_pl L f ++ [(q, e)])) : M q = none ∧ fm_P D A (fm_set M q e) H1 := by
  have hq : q ∉ L := va_pl_fresh2 (X := []) hD1
  rw [va_pl_push hq] at hP1 hD1
  refine ⟨by rw [h1 q, if_neg hq], L ++ [q], va_up f q e, fun b => ?_, hP1, hD1⟩
  by_cases hb : b = q
  · subst hb
    rw [fm_set_eq, if_pos (List.mem_append_right _ (List.mem_singleton.mpr rfl)), va_up_self]
  · have hi : b ∈ L ++ [q] ↔ b ∈ L := by simp [hb]
    rw [fm_set_ne _ _ hb, h1 b, va_up_ne _ _ hb]
    by_cases hm : b ∈ L
    · rw [if_pos hm, if_pos (hi.mpr hm)]
    · rw [if_neg hm, if_neg (fun z => hm (hi.mp z))]
theorem fm_P.mem {D : va_G} {A : Nat → Prop} {M : fm_M} {H : Heap} (h : fm_P D A M H) {a : Nat} {e : va_E} (ha : M a = some e) : A a := by
  obtain ⟨L, f, k, -, -, h3, -, -, hk⟩ := h.at ha
  exact h3.2 k _ hk
theorem fm_P.lt {D : va_G} {A : Nat → Prop} {M : fm_M} {H : Heap} (h : fm_P D A M H) {a : Nat} {e : va_E} (ha : M a = some e) : a < H.size := by
  obtain ⟨L, f, k, -, h2, -, -, -, hk⟩ := h.at ha
  exact (h2 k _ hk).lt
theorem fm_P.weak {D : va_G} {A B : Nat → Prop} {M : fm_M} {H : Heap} (h : fm_P D A M H) (hAB : ∀ (a : Nat) (e : va_E), M a = some e → B a) : fm_P D B M H := by
  obtain ⟨L, f, h1, h2, h3⟩ := h
  refine ⟨L, f, h1, h2, h3.1, fun k q hk => ?_⟩
  have hm : q ∈ va_pl L f := List.mem_of_getElem? hk
  obtain ⟨a, ha, rfl⟩ := List.mem_map.mp hm
  exact hAB a (f a) (by rw [h1 a, if_pos ha])
section FMR
variable {G : fm_G} {X : fm_X} {own : String} {cc : ByteArray} {nL fr lo mc ms : Nat} {M : fm_M} {kc ks pc : Nat} {ls : List (Nat × Value)} {st : List Value}

theorem g_iconst (C : GC G X own cc nL fr lo mc ms) {n : Int} {v : Int32} (hd : decode cc pc = .ok (.iconst n, 1)) (hv0 : Int32.ofInt n = v) (kk : GW G X nL M kc ks (pc + 1) ls (.int v :: st)) : GW G X nL M kc ks pc ls st := by
  obtain ⟨p, e, R, s, m, args, below, meth, c, Q, A⟩ := X
  obtain ⟨hx, hb, hown, hts, hK, hA, hml, hlocks, hR, hZ⟩ := C
  intro H locs la hP hS hv
  exact lv_iconst hx hb hd hv0 (kk H locs la hP hS hv)
theorem g_bipush (C : GC G X own cc nL fr lo mc ms) {n : Int} {v : Int32} (hd : decode cc pc = .ok (.bipush n, 2)) (hv0 : (Int8.ofInt n).toInt32 = v) (kk : GW G X nL M kc ks (pc + 2) ls (.int v :: st)) : GW G X nL M kc ks pc ls st := by
  obtain ⟨p, e, R, s, m, args, below, meth, c, Q, A⟩ := X
  obtain ⟨hx, hb, hown, hts, hK, hA, hml, hlocks, hR, hZ⟩ := C
  intro H locs la hP hS hv
  exact lv_bipush hx hb hd hv0 (kk H locs la hP hS hv)
theorem g_sipush (C : GC G X own cc nL fr lo mc ms) {n : Int} {v : Int32} (hd : decode cc pc = .ok (.sipush n, 3)) (hv0 : (Int16.ofInt n).toInt32 = v) (kk : GW G X nL M kc ks (pc + 3) ls (.int v :: st)) : GW G X nL M kc ks pc ls st := by
  obtain ⟨p, e, R, s, m, args, below, meth, c, Q, A⟩ := X
  obtain ⟨hx, hb, hown, hts, hK, hA, hml, hlocks, hR, hZ⟩ := C
  intro H locs la hP hS hv
  exact lv_sipush hx hb hd hv0 (kk H locs la hP hS hv)
theorem g_lconst (C : GC G X own cc nL fr lo mc ms) {n : Fin 2} {v : Int64} (hd : decode cc pc = .ok (.lconst n, 1)) (hv0 : Int64.ofNat (n : Nat) = v) (kk : GW G X nL M kc ks (pc + 1) ls (.long v :: st)) : GW G X nL M kc ks pc ls st := by
  obtain ⟨p, e, R, s, m, args, below, meth, c, Q, A⟩ := X
  obtain ⟨hx, hb, hown, hts, hK, hA, hml, hlocks, hR, hZ⟩ := C
  intro H locs la hP hS hv
  exact lv_lconst hx hb hd hv0 (kk H locs la hP hS hv)
theorem g_null (C : GC G X own cc nL fr lo mc ms)  (hd : decode cc pc = .ok (.aconst_null, 1)) (kk : GW G X nL M kc ks (pc + 1) ls (.null :: st)) : GW G X nL M kc ks pc ls st := by
  obtain ⟨p, e, R, s, m, args, below, meth, c, Q, A⟩ := X
  obtain ⟨hx, hb, hown, hts, hK, hA, hml, hlocks, hR, hZ⟩ := C
  intro H locs la hP hS hv
  exact lv_null hx hb hd (kk H locs la hP hS hv)
theorem g_ldc (C : GC G X own cc nL fr lo mc ms) {i : Nat} {v : Int32} (hd : decode cc pc = .ok (.ldc i, 2)) (hw : Cond.constant own i v ∈ fm_tbl) (kk : GW G X nL M kc ks (pc + 2) ls (.int v :: st)) : GW G X nL M kc ks pc ls st := by
  obtain ⟨p, e, R, s, m, args, below, meth, c, Q, A⟩ := X
  obtain ⟨hx, hb, hown, hts, hK, hA, hml, hlocks, hR, hZ⟩ := C
  intro H locs la hP hS hv
  exact lv_ldc hx hb hown (hts _ hw) hd (kk H locs la hP hS hv)
theorem g_ldc2 (C : GC G X own cc nL fr lo mc ms) {i : Nat} {v : Int64} (hd : decode cc pc = .ok (.ldc2_w i, 3)) (hw : Cond.constantLong own i v ∈ fm_tbl) (kk : GW G X nL M kc ks (pc + 3) ls (.long v :: st)) : GW G X nL M kc ks pc ls st := by
  obtain ⟨p, e, R, s, m, args, below, meth, c, Q, A⟩ := X
  obtain ⟨hx, hb, hown, hts, hK, hA, hml, hlocks, hR, hZ⟩ := C
  intro H locs la hP hS hv
  exact lv_ldc2 hx hb hown (hts _ hw) hd (kk H locs la hP hS hv)
theorem g_iload_n (C : GC G X own cc nL fr lo mc ms) {k : Fin 4} {x : Int32} (hd : decode cc pc = .ok (.iload_n k, 1)) (hl : fm_lk ls (k : Nat) = some (.int x)) (kk : GW G X nL M kc ks (pc + 1) ls (.int x :: st)) : GW G X nL M kc ks pc ls st := by
  obtain ⟨p, e, R, s, m, args, below, meth, c, Q, A⟩ := X
  obtain ⟨hx, hb, hown, hts, hK, hA, hml, hlocks, hR, hZ⟩ := C
  intro H locs la hP hS hv
  exact lv_iload_n hx hb hd rfl (fm_lk_has hv hl) (kk H locs la hP hS hv)
theorem g_iload (C : GC G X own cc nL fr lo mc ms) {i : Nat} {x : Int32} (hd : decode cc pc = .ok (.iload i, 2)) (hl : fm_lk ls i = some (.int x)) (kk : GW G X nL M kc ks (pc + 2) ls (.int x :: st)) : GW G X nL M kc ks pc ls st := by
  obtain ⟨p, e, R, s, m, args, below, meth, c, Q, A⟩ := X
  obtain ⟨hx, hb, hown, hts, hK, hA, hml, hlocks, hR, hZ⟩ := C
  intro H locs la hP hS hv
  exact lv_iload hx hb hd (fm_lk_has hv hl) (kk H locs la hP hS hv)
theorem g_istore_n (C : GC G X own cc nL fr lo mc ms) {k : Fin 4} {x : Int32} (hd : decode cc pc = .ok (.istore_n k, 1)) (hn : (k : Nat) < nL) (kk : GW G X nL M kc ks (pc + 1) (fm_put false (k : Nat) (.int x) ls) st) : GW G X nL M kc ks pc ls (.int x :: st) := by
  obtain ⟨p, e, R, s, m, args, below, meth, c, Q, A⟩ := X
  obtain ⟨hx, hb, hown, hts, hK, hA, hml, hlocks, hR, hZ⟩ := C
  intro H locs la hP hS hv
  exact lv_istore_n hx hb hd rfl hv hn rfl (fun la1 hv1 => kk H locs la1 hP hS (fm_put1 hv1))
theorem g_istore (C : GC G X own cc nL fr lo mc ms) {i : Nat} {x : Int32} (hd : decode cc pc = .ok (.istore i, 2)) (hn : i < nL) (kk : GW G X nL M kc ks (pc + 2) (fm_put false i (.int x) ls) st) : GW G X nL M kc ks pc ls (.int x :: st) := by
  obtain ⟨p, e, R, s, m, args, below, meth, c, Q, A⟩ := X
  obtain ⟨hx, hb, hown, hts, hK, hA, hml, hlocks, hR, hZ⟩ := C
  intro H locs la hP hS hv
  exact lv_istore hx hb hd hv hn rfl (fun la1 hv1 => kk H locs la1 hP hS (fm_put1 hv1))
theorem g_lload_n (C : GC G X own cc nL fr lo mc ms) {k : Fin 4} {x : Int64} (hd : decode cc pc = .ok (.lload_n k, 1)) (hl : fm_lk ls (k : Nat) = some (.long x)) (kk : GW G X nL M kc ks (pc + 1) ls (.long x :: st)) : GW G X nL M kc ks pc ls st := by
  obtain ⟨p, e, R, s, m, args, below, meth, c, Q, A⟩ := X
  obtain ⟨hx, hb, hown, hts, hK, hA, hml, hlocks, hR, hZ⟩ := C
  intro H locs la hP hS hv
  exact lv_lload_n hx hb hd rfl (fm_lk_has hv hl) (kk H locs la hP hS hv)
theorem g_lload (C : GC G X own cc nL fr lo mc ms) {i : Nat} {x : Int64} (hd : decode cc pc = .ok (.lload i, 2)) (hl : fm_lk ls i = some (.long x)) (kk : GW G X nL M kc ks (pc + 2) ls (.long x :: st)) : GW G X nL M kc ks pc ls st := by
  obtain ⟨p, e, R, s, m, args, below, meth, c, Q, A⟩ := X
  obtain ⟨hx, hb, hown, hts, hK, hA, hml, hlocks, hR, hZ⟩ := C
  intro H locs la hP hS hv
  exact lv_lload hx hb hd (fm_lk_has hv hl) (kk H locs la hP hS hv)
theorem g_lstore_n (C : GC G X own cc nL fr lo mc ms) {k : Fin 4} {x : Int64} (hd : decode cc pc = .ok (.lstore_n k, 1)) (hn : (k : Nat) + 1 < nL) (kk : GW G X nL M kc ks (pc + 1) (fm_put true (k : Nat) (.long x) ls) st) : GW G X nL M kc ks pc ls (.long x :: st) := by
  obtain ⟨p, e, R, s, m, args, below, meth, c, Q, A⟩ := X
  obtain ⟨hx, hb, hown, hts, hK, hA, hml, hlocks, hR, hZ⟩ := C
  intro H locs la hP hS hv
  exact lv_lstore_n hx hb hd rfl hv hn rfl (fun la1 hv1 => kk H locs la1 hP hS (fm_put2 hv1))
theorem g_lstore (C : GC G X own cc nL fr lo mc ms) {i : Nat} {x : Int64} (hd : decode cc pc = .ok (.lstore i, 2)) (hn : i + 1 < nL) (kk : GW G X nL M kc ks (pc + 2) (fm_put true i (.long x) ls) st) : GW G X nL M kc ks pc ls (.long x :: st) := by
  obtain ⟨p, e, R, s, m, args, below, meth, c, Q, A⟩ := X
  obtain ⟨hx, hb, hown, hts, hK, hA, hml, hlocks, hR, hZ⟩ := C
  intro H locs la hP hS hv
  exact lv_lstore hx hb hd hv hn rfl (fun la1 hv1 => kk H locs la1 hP hS (fm_put2 hv1))
theorem g_aload_n (C : GC G X own cc nL fr lo mc ms) {k : Fin 4} {x : Nat} (hd : decode cc pc = .ok (.aload_n k, 1)) (hl : fm_lk ls (k : Nat) = some (.ref x)) (kk : GW G X nL M kc ks (pc + 1) ls (.ref x :: st)) : GW G X nL M kc ks pc ls st := by
  obtain ⟨p, e, R, s, m, args, below, meth, c, Q, A⟩ := X
  obtain ⟨hx, hb, hown, hts, hK, hA, hml, hlocks, hR, hZ⟩ := C
  intro H locs la hP hS hv
  exact lv_aload_n hx hb hd rfl (fm_lk_has hv hl) (kk H locs la hP hS hv)
theorem g_aload (C : GC G X own cc nL fr lo mc ms) {i : Nat} {x : Nat} (hd : decode cc pc = .ok (.aload i, 2)) (hl : fm_lk ls i = some (.ref x)) (kk : GW G X nL M kc ks (pc + 2) ls (.ref x :: st)) : GW G X nL M kc ks pc ls st := by
  obtain ⟨p, e, R, s, m, args, below, meth, c, Q, A⟩ := X
  obtain ⟨hx, hb, hown, hts, hK, hA, hml, hlocks, hR, hZ⟩ := C
  intro H locs la hP hS hv
  exact lv_aload hx hb hd (fm_lk_has hv hl) (kk H locs la hP hS hv)
theorem g_astore_n (C : GC G X own cc nL fr lo mc ms) {k : Fin 4} {x : Nat} (hd : decode cc pc = .ok (.astore_n k, 1)) (hn : (k : Nat) < nL) (kk : GW G X nL M kc ks (pc + 1) (fm_put false (k : Nat) (.ref x) ls) st) : GW G X nL M kc ks pc ls (.ref x :: st) := by
  obtain ⟨p, e, R, s, m, args, below, meth, c, Q, A⟩ := X
  obtain ⟨hx, hb, hown, hts, hK, hA, hml, hlocks, hR, hZ⟩ := C
  intro H locs la hP hS hv
  exact lv_astore_n hx hb hd rfl hv hn rfl (fun la1 hv1 => kk H locs la1 hP hS (fm_put1 hv1))
theorem g_astore (C : GC G X own cc nL fr lo mc ms) {i : Nat} {x : Nat} (hd : decode cc pc = .ok (.astore i, 2)) (hn : i < nL) (kk : GW G X nL M kc ks (pc + 2) (fm_put false i (.ref x) ls) st) : GW G X nL M kc ks pc ls (.ref x :: st) := by
  obtain ⟨p, e, R, s, m, args, below, meth, c, Q, A⟩ := X
  obtain ⟨hx, hb, hown, hts, hK, hA, hml, hlocks, hR, hZ⟩ := C
  intro H locs la hP hS hv
  exact lv_astore hx hb hd hv hn rfl (fun la1 hv1 => kk H locs la1 hP hS (fm_put1 hv1))
theorem g_iinc (C : GC G X own cc nL fr lo mc ms) {i : Nat} {n : Int} {x : Int32} {v : Int32} (hd : decode cc pc = .ok (.iinc i n, 3)) (hl : fm_lk ls i = some (.int x)) (hv0 : x + Int32.ofInt n = v) (hn : i < nL) (kk : GW G X nL M kc ks (pc + 3) (fm_put false i (.int v) ls) st) : GW G X nL M kc ks pc ls st := by
  obtain ⟨p, e, R, s, m, args, below, meth, c, Q, A⟩ := X
  obtain ⟨hx, hb, hown, hts, hK, hA, hml, hlocks, hR, hZ⟩ := C
  intro H locs la hP hS hv
  obtain ⟨k0, hk0⟩ := List.getElem?_of_mem (fm_lk_mem hl)
  exact lv_iinc hx hb hd hv hk0 hv0 hn rfl (fun la1 hv1 => kk H locs la1 hP hS (fm_put1 hv1))
theorem g_iadd (C : GC G X own cc nL fr lo mc ms) {x y : Int32} (hd : decode cc pc = .ok (.iadd, 1)) (kk : GW G X nL M kc ks (pc + 1) ls (.int (x + y) :: st)) : GW G X nL M kc ks pc ls (.int y :: .int x :: st) := by
  obtain ⟨p, e, R, s, m, args, below, meth, c, Q, A⟩ := X
  obtain ⟨hx, hb, hown, hts, hK, hA, hml, hlocks, hR, hZ⟩ := C
  intro H locs la hP hS hv
  exact lv_iadd hx hb hd (kk H locs la hP hS hv)
theorem g_isub (C : GC G X own cc nL fr lo mc ms) {x y : Int32} (hd : decode cc pc = .ok (.isub, 1)) (kk : GW G X nL M kc ks (pc + 1) ls (.int (x - y) :: st)) : GW G X nL M kc ks pc ls (.int y :: .int x :: st) := by
  obtain ⟨p, e, R, s, m, args, below, meth, c, Q, A⟩ := X
  obtain ⟨hx, hb, hown, hts, hK, hA, hml, hlocks, hR, hZ⟩ := C
  intro H locs la hP hS hv
  exact lv_isub hx hb hd (kk H locs la hP hS hv)
theorem g_imul (C : GC G X own cc nL fr lo mc ms) {x y : Int32} (hd : decode cc pc = .ok (.imul, 1)) (kk : GW G X nL M kc ks (pc + 1) ls (.int (x * y) :: st)) : GW G X nL M kc ks pc ls (.int y :: .int x :: st) := by
  obtain ⟨p, e, R, s, m, args, below, meth, c, Q, A⟩ := X
  obtain ⟨hx, hb, hown, hts, hK, hA, hml, hlocks, hR, hZ⟩ := C
  intro H locs la hP hS hv
  exact lv_imul hx hb hd (kk H locs la hP hS hv)
theorem g_iand (C : GC G X own cc nL fr lo mc ms) {x y : Int32} (hd : decode cc pc = .ok (.iand, 1)) (kk : GW G X nL M kc ks (pc + 1) ls (.int (x &&& y) :: st)) : GW G X nL M kc ks pc ls (.int y :: .int x :: st) := by
  obtain ⟨p, e, R, s, m, args, below, meth, c, Q, A⟩ := X
  obtain ⟨hx, hb, hown, hts, hK, hA, hml, hlocks, hR, hZ⟩ := C
  intro H locs la hP hS hv
  exact lv_iand hx hb hd (kk H locs la hP hS hv)
theorem g_ior (C : GC G X own cc nL fr lo mc ms) {x y : Int32} (hd : decode cc pc = .ok (.ior, 1)) (kk : GW G X nL M kc ks (pc + 1) ls (.int (x ||| y) :: st)) : GW G X nL M kc ks pc ls (.int y :: .int x :: st) := by
  obtain ⟨p, e, R, s, m, args, below, meth, c, Q, A⟩ := X
  obtain ⟨hx, hb, hown, hts, hK, hA, hml, hlocks, hR, hZ⟩ := C
  intro H locs la hP hS hv
  exact lv_ior hx hb hd (kk H locs la hP hS hv)
theorem g_ixor (C : GC G X own cc nL fr lo mc ms) {x y : Int32} (hd : decode cc pc = .ok (.ixor, 1)) (kk : GW G X nL M kc ks (pc + 1) ls (.int (x ^^^ y) :: st)) : GW G X nL M kc ks pc ls (.int y :: .int x :: st) := by
  obtain ⟨p, e, R, s, m, args, below, meth, c, Q, A⟩ := X
  obtain ⟨hx, hb, hown, hts, hK, hA, hml, hlocks, hR, hZ⟩ := C
  intro H locs la hP hS hv
  exact lv_ixor hx hb hd (kk H locs la hP hS hv)
theorem g_ladd (C : GC G X own cc nL fr lo mc ms) {x y : Int64} (hd : decode cc pc = .ok (.ladd, 1)) (kk : GW G X nL M kc ks (pc + 1) ls (.long (x + y) :: st)) : GW G X nL M kc ks pc ls (.long y :: .long x :: st) := by
  obtain ⟨p, e, R, s, m, args, below, meth, c, Q, A⟩ := X
  obtain ⟨hx, hb, hown, hts, hK, hA, hml, hlocks, hR, hZ⟩ := C
  intro H locs la hP hS hv
  exact lv_ladd hx hb hd (kk H locs la hP hS hv)
theorem g_lsub (C : GC G X own cc nL fr lo mc ms) {x y : Int64} (hd : decode cc pc = .ok (.lsub, 1)) (kk : GW G X nL M kc ks (pc + 1) ls (.long (x - y) :: st)) : GW G X nL M kc ks pc ls (.long y :: .long x :: st) := by
  obtain ⟨p, e, R, s, m, args, below, meth, c, Q, A⟩ := X
  obtain ⟨hx, hb, hown, hts, hK, hA, hml, hlocks, hR, hZ⟩ := C
  intro H locs la hP hS hv
  exact lv_lsub hx hb hd (kk H locs la hP hS hv)
theorem g_lmul (C : GC G X own cc nL fr lo mc ms) {x y : Int64} (hd : decode cc pc = .ok (.lmul, 1)) (kk : GW G X nL M kc ks (pc + 1) ls (.long (x * y) :: st)) : GW G X nL M kc ks pc ls (.long y :: .long x :: st) := by
  obtain ⟨p, e, R, s, m, args, below, meth, c, Q, A⟩ := X
  obtain ⟨hx, hb, hown, hts, hK, hA, hml, hlocks, hR, hZ⟩ := C
  intro H locs la hP hS hv
  exact lv_lmul hx hb hd (kk H locs la hP hS hv)
theorem g_land (C : GC G X own cc nL fr lo mc ms) {x y : Int64} (hd : decode cc pc = .ok (.land, 1)) (kk : GW G X nL M kc ks (pc + 1) ls (.long (x &&& y) :: st)) : GW G X nL M kc ks pc ls (.long y :: .long x :: st) := by
  obtain ⟨p, e, R, s, m, args, below, meth, c, Q, A⟩ := X
  obtain ⟨hx, hb, hown, hts, hK, hA, hml, hlocks, hR, hZ⟩ := C
  intro H locs la hP hS hv
  exact lv_land hx hb hd (kk H locs la hP hS hv)
theorem g_lor (C : GC G X own cc nL fr lo mc ms) {x y : Int64} (hd : decode cc pc = .ok (.lor, 1)) (kk : GW G X nL M kc ks (pc + 1) ls (.long (x ||| y) :: st)) : GW G X nL M kc ks pc ls (.long y :: .long x :: st) := by
  obtain ⟨p, e, R, s, m, args, below, meth, c, Q, A⟩ := X
  obtain ⟨hx, hb, hown, hts, hK, hA, hml, hlocks, hR, hZ⟩ := C
  intro H locs la hP hS hv
  exact lv_lor hx hb hd (kk H locs la hP hS hv)
theorem g_lxor (C : GC G X own cc nL fr lo mc ms) {x y : Int64} (hd : decode cc pc = .ok (.lxor, 1)) (kk : GW G X nL M kc ks (pc + 1) ls (.long (x ^^^ y) :: st)) : GW G X nL M kc ks pc ls (.long y :: .long x :: st) := by
  obtain ⟨p, e, R, s, m, args, below, meth, c, Q, A⟩ := X
  obtain ⟨hx, hb, hown, hts, hK, hA, hml, hlocks, hR, hZ⟩ := C
  intro H locs la hP hS hv
  exact lv_lxor hx hb hd (kk H locs la hP hS hv)
theorem g_ishl (C : GC G X own cc nL fr lo mc ms) {x y : Int32} (hd : decode cc pc = .ok (.ishl, 1)) (kk : GW G X nL M kc ks (pc + 1) ls (.int (x <<< (y &&& 31)) :: st)) : GW G X nL M kc ks pc ls (.int y :: .int x :: st) := by
  obtain ⟨p, e, R, s, m, args, below, meth, c, Q, A⟩ := X
  obtain ⟨hx, hb, hown, hts, hK, hA, hml, hlocks, hR, hZ⟩ := C
  intro H locs la hP hS hv
  exact lv_ishl hx hb hd (kk H locs la hP hS hv)
theorem g_ishr (C : GC G X own cc nL fr lo mc ms) {x y : Int32} (hd : decode cc pc = .ok (.ishr, 1)) (kk : GW G X nL M kc ks (pc + 1) ls (.int (x >>> (y &&& 31)) :: st)) : GW G X nL M kc ks pc ls (.int y :: .int x :: st) := by
  obtain ⟨p, e, R, s, m, args, below, meth, c, Q, A⟩ := X
  obtain ⟨hx, hb, hown, hts, hK, hA, hml, hlocks, hR, hZ⟩ := C
  intro H locs la hP hS hv
  exact lv_ishr hx hb hd (kk H locs la hP hS hv)
theorem g_ineg (C : GC G X own cc nL fr lo mc ms) {x : Int32} (hd : decode cc pc = .ok (.ineg, 1)) (kk : GW G X nL M kc ks (pc + 1) ls (.int (-x) :: st)) : GW G X nL M kc ks pc ls (.int x :: st) := by
  obtain ⟨p, e, R, s, m, args, below, meth, c, Q, A⟩ := X
  obtain ⟨hx, hb, hown, hts, hK, hA, hml, hlocks, hR, hZ⟩ := C
  intro H locs la hP hS hv
  exact lv_ineg hx hb hd (kk H locs la hP hS hv)
theorem g_iushr (C : GC G X own cc nL fr lo mc ms) {x y : Int32} (hd : decode cc pc = .ok (.iushr, 1)) (kk : GW G X nL M kc ks (pc + 1) ls (.int (x.toUInt32 >>> (y.toUInt32 &&& Int32.toUInt32 31)).toInt32 :: st)) : GW G X nL M kc ks pc ls (.int y :: .int x :: st) := by
  obtain ⟨p, e, R, s, m, args, below, meth, c, Q, A⟩ := X
  obtain ⟨hx, hb, hown, hts, hK, hA, hml, hlocks, hR, hZ⟩ := C
  intro H locs la hP hS hv
  exact lv_iushr hx hb hd rfl (kk H locs la hP hS hv)
theorem g_lushr (C : GC G X own cc nL fr lo mc ms) {x : Int64} {y : Int32} (hd : decode cc pc = .ok (.lushr, 1)) (kk : GW G X nL M kc ks (pc + 1) ls (.long (x.toUInt64 >>> (y.toInt64.toUInt64 &&& Int64.toUInt64 63)).toInt64 :: st)) : GW G X nL M kc ks pc ls (.int y :: .long x :: st) := by
  obtain ⟨p, e, R, s, m, args, below, meth, c, Q, A⟩ := X
  obtain ⟨hx, hb, hown, hts, hK, hA, hml, hlocks, hR, hZ⟩ := C
  intro H locs la hP hS hv
  exact lv_lushr hx hb hd rfl (kk H locs la hP hS hv)
theorem g_lshl (C : GC G X own cc nL fr lo mc ms) {x : Int64} {y : Int32} (hd : decode cc pc = .ok (.lshl, 1)) (kk : GW G X nL M kc ks (pc + 1) ls (.long (x <<< (y.toInt64 &&& 63)) :: st)) : GW G X nL M kc ks pc ls (.int y :: .long x :: st) := by
  obtain ⟨p, e, R, s, m, args, below, meth, c, Q, A⟩ := X
  obtain ⟨hx, hb, hown, hts, hK, hA, hml, hlocks, hR, hZ⟩ := C
  intro H locs la hP hS hv
  exact lv_lshl hx hb hd rfl (kk H locs la hP hS hv)
theorem g_i2l (C : GC G X own cc nL fr lo mc ms) {x : Int32} (hd : decode cc pc = .ok (.i2l, 1)) (kk : GW G X nL M kc ks (pc + 1) ls (.long x.toInt64 :: st)) : GW G X nL M kc ks pc ls (.int x :: st) := by
  obtain ⟨p, e, R, s, m, args, below, meth, c, Q, A⟩ := X
  obtain ⟨hx, hb, hown, hts, hK, hA, hml, hlocks, hR, hZ⟩ := C
  intro H locs la hP hS hv
  exact lv_i2l hx hb hd rfl (kk H locs la hP hS hv)
theorem g_l2i (C : GC G X own cc nL fr lo mc ms) {x : Int64} (hd : decode cc pc = .ok (.l2i, 1)) (kk : GW G X nL M kc ks (pc + 1) ls (.int x.toInt32 :: st)) : GW G X nL M kc ks pc ls (.long x :: st) := by
  obtain ⟨p, e, R, s, m, args, below, meth, c, Q, A⟩ := X
  obtain ⟨hx, hb, hown, hts, hK, hA, hml, hlocks, hR, hZ⟩ := C
  intro H locs la hP hS hv
  exact lv_l2i hx hb hd rfl (kk H locs la hP hS hv)
theorem g_idiv (C : GC G X own cc nL fr lo mc ms) {x y : Int32} (hd : decode cc pc = .ok (.idiv, 1)) (h0 : ¬ y = 0) (kk : GW G X nL M kc ks (pc + 1) ls (.int (x / y) :: st)) : GW G X nL M kc ks pc ls (.int y :: .int x :: st) := by
  obtain ⟨p, e, R, s, m, args, below, meth, c, Q, A⟩ := X
  obtain ⟨hx, hb, hown, hts, hK, hA, hml, hlocks, hR, hZ⟩ := C
  intro H locs la hP hS hv
  exact lv_idiv hx hb hd h0 (kk H locs la hP hS hv)
theorem g_irem (C : GC G X own cc nL fr lo mc ms) {x y : Int32} (hd : decode cc pc = .ok (.irem, 1)) (h0 : ¬ y = 0) (kk : GW G X nL M kc ks (pc + 1) ls (.int (x - x / y * y) :: st)) : GW G X nL M kc ks pc ls (.int y :: .int x :: st) := by
  obtain ⟨p, e, R, s, m, args, below, meth, c, Q, A⟩ := X
  obtain ⟨hx, hb, hown, hts, hK, hA, hml, hlocks, hR, hZ⟩ := C
  intro H locs la hP hS hv
  exact lv_irem hx hb hd h0 (kk H locs la hP hS hv)
theorem g_dup (C : GC G X own cc nL fr lo mc ms) {v : Value} (hd : decode cc pc = .ok (.dup, 1)) (h1 : v.category = 1) (kk : GW G X nL M kc ks (pc + 1) ls (v :: v :: st)) : GW G X nL M kc ks pc ls (v :: st) := by
  obtain ⟨p, e, R, s, m, args, below, meth, c, Q, A⟩ := X
  obtain ⟨hx, hb, hown, hts, hK, hA, hml, hlocks, hR, hZ⟩ := C
  intro H locs la hP hS hv
  exact lv_dup hx hb hd h1 (kk H locs la hP hS hv)
theorem g_pop (C : GC G X own cc nL fr lo mc ms) {v : Value} (hd : decode cc pc = .ok (.pop, 1)) (h1 : v.category = 1) (kk : GW G X nL M kc ks (pc + 1) ls st) : GW G X nL M kc ks pc ls (v :: st) := by
  obtain ⟨p, e, R, s, m, args, below, meth, c, Q, A⟩ := X
  obtain ⟨hx, hb, hown, hts, hK, hA, hml, hlocks, hR, hZ⟩ := C
  intro H locs la hP hS hv
  exact lv_pop hx hb hd h1 (kk H locs la hP hS hv)
theorem g_pop2 (C : GC G X own cc nL fr lo mc ms) {v : Value} (hd : decode cc pc = .ok (.pop2, 1)) (h1 : v.category = 2) (kk : GW G X nL M kc ks (pc + 1) ls st) : GW G X nL M kc ks pc ls (v :: st) := by
  obtain ⟨p, e, R, s, m, args, below, meth, c, Q, A⟩ := X
  obtain ⟨hx, hb, hown, hts, hK, hA, hml, hlocks, hR, hZ⟩ := C
  intro H locs la hP hS hv
  exact lv_pop2_2 hx hb hd h1 (kk H locs la hP hS hv)
theorem g_dup_x1 (C : GC G X own cc nL fr lo mc ms) {v w : Value} (hd : decode cc pc = .ok (.dup_x1, 1)) (h1 : v.category = 1) (h2 : w.category = 1) (kk : GW G X nL M kc ks (pc + 1) ls (v :: w :: v :: st)) : GW G X nL M kc ks pc ls (v :: w :: st) := by
  obtain ⟨p, e, R, s, m, args, below, meth, c, Q, A⟩ := X
  obtain ⟨hx, hb, hown, hts, hK, hA, hml, hlocks, hR, hZ⟩ := C
  intro H locs la hP hS hv
  exact lv_dup_x1 hx hb hd h1 h2 (kk H locs la hP hS hv)
theorem g_dup_x2 (C : GC G X own cc nL fr lo mc ms) {v w u : Value} (hd : decode cc pc = .ok (.dup_x2, 1)) (h1 : v.category = 1) (h2 : w.category = 1) (h3 : u.category = 1) (kk : GW G X nL M kc ks (pc + 1) ls (v :: w :: u :: v :: st)) : GW G X nL M kc ks pc ls (v :: w :: u :: st) := by
  obtain ⟨p, e, R, s, m, args, below, meth, c, Q, A⟩ := X
  obtain ⟨hx, hb, hown, hts, hK, hA, hml, hlocks, hR, hZ⟩ := C
  intro H locs la hP hS hv
  exact lv_dup_x2 hx hb hd h1 h2 h3 (kk H locs la hP hS hv)
theorem g_dup2 (C : GC G X own cc nL fr lo mc ms) {v w : Value} (hd : decode cc pc = .ok (.dup2, 1)) (h1 : v.category = 1) (h2 : w.category = 1) (kk : GW G X nL M kc ks (pc + 1) ls (v :: w :: v :: w :: st)) : GW G X nL M kc ks pc ls (v :: w :: st) := by
  obtain ⟨p, e, R, s, m, args, below, meth, c, Q, A⟩ := X
  obtain ⟨hx, hb, hown, hts, hK, hA, hml, hlocks, hR, hZ⟩ := C
  intro H locs la hP hS hv
  exact lv_dup2_11 hx hb hd h1 h2 (kk H locs la hP hS hv)
theorem g_dup2L (C : GC G X own cc nL fr lo mc ms) {v : Value} (hd : decode cc pc = .ok (.dup2, 1)) (h1 : v.category = 2) (kk : GW G X nL M kc ks (pc + 1) ls (v :: v :: st)) : GW G X nL M kc ks pc ls (v :: st) := by
  obtain ⟨p, e, R, s, m, args, below, meth, c, Q, A⟩ := X
  obtain ⟨hx, hb, hown, hts, hK, hA, hml, hlocks, hR, hZ⟩ := C
  intro H locs la hP hS hv
  exact lv_dup2_2 hx hb hd h1 (kk H locs la hP hS hv)
theorem g_dup2_x2L (C : GC G X own cc nL fr lo mc ms) {v w u : Value} (hd : decode cc pc = .ok (.dup2_x2, 1)) (h1 : v.category = 2) (h2 : w.category = 1) (h3 : u.category = 1) (kk : GW G X nL M kc ks (pc + 1) ls (v :: w :: u :: v :: st)) : GW G X nL M kc ks pc ls (v :: w :: u :: st) := by
  obtain ⟨p, e, R, s, m, args, below, meth, c, Q, A⟩ := X
  obtain ⟨hx, hb, hown, hts, hK, hA, hml, hlocks, hR, hZ⟩ := C
  intro H locs la hP hS hv
  exact lv_dup2_x2_2 hx hb hd h1 h2 h3 (kk H locs la hP hS hv)
theorem g_if_eq (C : GC G X own cc nL fr lo mc ms) {x : Int32} {off : Int} {tgt : Nat} (hd : decode cc pc = .ok (.ifCond .eq off, 3)) (ht : (pc : Int) + off = (tgt : Int)) (kt : x = 0 → GW G X nL M kc ks tgt ls st) (kf : ¬ x = 0 → GW G X nL M kc ks (pc + 3) ls st) : GW G X nL M kc ks pc ls (.int x :: st) := by
  obtain ⟨p, e, R, s, m, args, below, meth, c, Q, A⟩ := X
  obtain ⟨hx, hb, hown, hts, hK, hA, hml, hlocks, hR, hZ⟩ := C
  intro H locs la hP hS hv
  exact lv_if_eq hx hb hd ht (fun h => kt h H locs la hP hS hv) (fun h => kf h H locs la hP hS hv)
theorem g_icmp_eq (C : GC G X own cc nL fr lo mc ms) {x y : Int32} {off : Int} {tgt : Nat} (hd : decode cc pc = .ok (.if_icmp .eq off, 3)) (ht : (pc : Int) + off = (tgt : Int)) (kt : x = y → GW G X nL M kc ks tgt ls st) (kf : ¬ x = y → GW G X nL M kc ks (pc + 3) ls st) : GW G X nL M kc ks pc ls (.int y :: .int x :: st) := by
  obtain ⟨p, e, R, s, m, args, below, meth, c, Q, A⟩ := X
  obtain ⟨hx, hb, hown, hts, hK, hA, hml, hlocks, hR, hZ⟩ := C
  intro H locs la hP hS hv
  exact lv_icmp_eq hx hb hd ht (fun h => kt h H locs la hP hS hv) (fun h => kf h H locs la hP hS hv)
theorem g_icmp_eqN (C : GC G X own cc nL fr lo mc ms) {a b : Nat} {off : Int} {tgt : Nat} (hd : decode cc pc = .ok (.if_icmp .eq off, 3)) (ht : (pc : Int) + off = (tgt : Int)) (ha : a < 2 ^ 31) (hb : b < 2 ^ 31) (kt : a = b → GW G X nL M kc ks tgt ls st) (kf : ¬ a = b → GW G X nL M kc ks (pc + 3) ls st) : GW G X nL M kc ks pc ls (.int (nI b) :: .int (nI a) :: st) :=
  g_icmp_eq C hd ht (fun h => kt ((nI_eq ha hb).mp h)) (fun h => kf (fun z => h ((nI_eq ha hb).mpr z)))
theorem g_if_ne (C : GC G X own cc nL fr lo mc ms) {x : Int32} {off : Int} {tgt : Nat} (hd : decode cc pc = .ok (.ifCond .ne off, 3)) (ht : (pc : Int) + off = (tgt : Int)) (kt : ¬ x = 0 → GW G X nL M kc ks tgt ls st) (kf : x = 0 → GW G X nL M kc ks (pc + 3) ls st) : GW G X nL M kc ks pc ls (.int x :: st) := by
  obtain ⟨p, e, R, s, m, args, below, meth, c, Q, A⟩ := X
  obtain ⟨hx, hb, hown, hts, hK, hA, hml, hlocks, hR, hZ⟩ := C
  intro H locs la hP hS hv
  exact lv_if_ne hx hb hd ht (fun h => kt h H locs la hP hS hv) (fun h => kf h H locs la hP hS hv)
theorem g_icmp_ne (C : GC G X own cc nL fr lo mc ms) {x y : Int32} {off : Int} {tgt : Nat} (hd : decode cc pc = .ok (.if_icmp .ne off, 3)) (ht : (pc : Int) + off = (tgt : Int)) (kt : ¬ x = y → GW G X nL M kc ks tgt ls st) (kf : x = y → GW G X nL M kc ks (pc + 3) ls st) : GW G X nL M kc ks pc ls (.int y :: .int x :: st) := by
  obtain ⟨p, e, R, s, m, args, below, meth, c, Q, A⟩ := X
  obtain ⟨hx, hb, hown, hts, hK, hA, hml, hlocks, hR, hZ⟩ := C
  intro H locs la hP hS hv
  exact lv_icmp_ne hx hb hd ht (fun h => kt h H locs la hP hS hv) (fun h => kf h H locs la hP hS hv)
theorem g_icmp_neN (C : GC G X own cc nL fr lo mc ms) {a b : Nat} {off : Int} {tgt : Nat} (hd : decode cc pc = .ok (.if_icmp .ne off, 3)) (ht : (pc : Int) + off = (tgt : Int)) (ha : a < 2 ^ 31) (hb : b < 2 ^ 31) (kt : ¬ a = b → GW G X nL M kc ks tgt ls st) (kf : a = b → GW G X nL M kc ks (pc + 3) ls st) : GW G X nL M kc ks pc ls (.int (nI b) :: .int (nI a) :: st) :=
  g_icmp_ne C hd ht (fun h => kt (fun z => h ((nI_eq ha hb).mpr z))) (fun h => kf ((nI_eq ha hb).mp h))
theorem g_if_lt (C : GC G X own cc nL fr lo mc ms) {x : Int32} {off : Int} {tgt : Nat} (hd : decode cc pc = .ok (.ifCond .lt off, 3)) (ht : (pc : Int) + off = (tgt : Int)) (kt : x < 0 → GW G X nL M kc ks tgt ls st) (kf : ¬ x < 0 → GW G X nL M kc ks (pc + 3) ls st) : GW G X nL M kc ks pc ls (.int x :: st) := by
  obtain ⟨p, e, R, s, m, args, below, meth, c, Q, A⟩ := X
  obtain ⟨hx, hb, hown, hts, hK, hA, hml, hlocks, hR, hZ⟩ := C
  intro H locs la hP hS hv
  exact lv_if_lt hx hb hd ht (fun h => kt h H locs la hP hS hv) (fun h => kf h H locs la hP hS hv)
theorem g_icmp_lt (C : GC G X own cc nL fr lo mc ms) {x y : Int32} {off : Int} {tgt : Nat} (hd : decode cc pc = .ok (.if_icmp .lt off, 3)) (ht : (pc : Int) + off = (tgt : Int)) (kt : x < y → GW G X nL M kc ks tgt ls st) (kf : ¬ x < y → GW G X nL M kc ks (pc + 3) ls st) : GW G X nL M kc ks pc ls (.int y :: .int x :: st) := by
  obtain ⟨p, e, R, s, m, args, below, meth, c, Q, A⟩ := X
  obtain ⟨hx, hb, hown, hts, hK, hA, hml, hlocks, hR, hZ⟩ := C
  intro H locs la hP hS hv
  exact lv_icmp_lt hx hb hd ht (fun h => kt h H locs la hP hS hv) (fun h => kf h H locs la hP hS hv)
theorem g_icmp_ltN (C : GC G X own cc nL fr lo mc ms) {a b : Nat} {off : Int} {tgt : Nat} (hd : decode cc pc = .ok (.if_icmp .lt off, 3)) (ht : (pc : Int) + off = (tgt : Int)) (ha : a < 2 ^ 31) (hb : b < 2 ^ 31) (kt : a < b → GW G X nL M kc ks tgt ls st) (kf : b ≤ a → GW G X nL M kc ks (pc + 3) ls st) : GW G X nL M kc ks pc ls (.int (nI b) :: .int (nI a) :: st) :=
  g_icmp_lt C hd ht (fun h => kt ((nI_ltI ha hb).mp h)) (fun h => kf (Nat.not_lt.mp (fun z => h ((nI_ltI ha hb).mpr z))))
theorem g_if_ge (C : GC G X own cc nL fr lo mc ms) {x : Int32} {off : Int} {tgt : Nat} (hd : decode cc pc = .ok (.ifCond .ge off, 3)) (ht : (pc : Int) + off = (tgt : Int)) (kt : 0 ≤ x → GW G X nL M kc ks tgt ls st) (kf : ¬ 0 ≤ x → GW G X nL M kc ks (pc + 3) ls st) : GW G X nL M kc ks pc ls (.int x :: st) := by
  obtain ⟨p, e, R, s, m, args, below, meth, c, Q, A⟩ := X
  obtain ⟨hx, hb, hown, hts, hK, hA, hml, hlocks, hR, hZ⟩ := C
  intro H locs la hP hS hv
  exact lv_if_ge hx hb hd ht (fun h => kt h H locs la hP hS hv) (fun h => kf h H locs la hP hS hv)
theorem g_icmp_ge (C : GC G X own cc nL fr lo mc ms) {x y : Int32} {off : Int} {tgt : Nat} (hd : decode cc pc = .ok (.if_icmp .ge off, 3)) (ht : (pc : Int) + off = (tgt : Int)) (kt : y ≤ x → GW G X nL M kc ks tgt ls st) (kf : ¬ y ≤ x → GW G X nL M kc ks (pc + 3) ls st) : GW G X nL M kc ks pc ls (.int y :: .int x :: st) := by
  obtain ⟨p, e, R, s, m, args, below, meth, c, Q, A⟩ := X
  obtain ⟨hx, hb, hown, hts, hK, hA, hml, hlocks, hR, hZ⟩ := C
  intro H locs la hP hS hv
  exact lv_icmp_ge hx hb hd ht (fun h => kt h H locs la hP hS hv) (fun h => kf h H locs la hP hS hv)
theorem g_icmp_geN (C : GC G X own cc nL fr lo mc ms) {a b : Nat} {off : Int} {tgt : Nat} (hd : decode cc pc = .ok (.if_icmp .ge off, 3)) (ht : (pc : Int) + off = (tgt : Int)) (ha : a < 2 ^ 31) (hb : b < 2 ^ 31) (kt : b ≤ a → GW G X nL M kc ks tgt ls st) (kf : a < b → GW G X nL M kc ks (pc + 3) ls st) : GW G X nL M kc ks pc ls (.int (nI b) :: .int (nI a) :: st) :=
  g_icmp_ge C hd ht (fun h => kt ((nI_leI hb ha).mp h)) (fun h => kf (Nat.not_le.mp (fun z => h ((nI_leI hb ha).mpr z))))
theorem g_if_gt (C : GC G X own cc nL fr lo mc ms) {x : Int32} {off : Int} {tgt : Nat} (hd : decode cc pc = .ok (.ifCond .gt off, 3)) (ht : (pc : Int) + off = (tgt : Int)) (kt : 0 < x → GW G X nL M kc ks tgt ls st) (kf : ¬ 0 < x → GW G X nL M kc ks (pc + 3) ls st) : GW G X nL M kc ks pc ls (.int x :: st) := by
  obtain ⟨p, e, R, s, m, args, below, meth, c, Q, A⟩ := X
  obtain ⟨hx, hb, hown, hts, hK, hA, hml, hlocks, hR, hZ⟩ := C
  intro H locs la hP hS hv
  exact lv_if_gt hx hb hd ht (fun h => kt h H locs la hP hS hv) (fun h => kf h H locs la hP hS hv)
theorem g_icmp_gt (C : GC G X own cc nL fr lo mc ms) {x y : Int32} {off : Int} {tgt : Nat} (hd : decode cc pc = .ok (.if_icmp .gt off, 3)) (ht : (pc : Int) + off = (tgt : Int)) (kt : y < x → GW G X nL M kc ks tgt ls st) (kf : ¬ y < x → GW G X nL M kc ks (pc + 3) ls st) : GW G X nL M kc ks pc ls (.int y :: .int x :: st) := by
  obtain ⟨p, e, R, s, m, args, below, meth, c, Q, A⟩ := X
  obtain ⟨hx, hb, hown, hts, hK, hA, hml, hlocks, hR, hZ⟩ := C
  intro H locs la hP hS hv
  exact lv_icmp_gt hx hb hd ht (fun h => kt h H locs la hP hS hv) (fun h => kf h H locs la hP hS hv)
theorem g_icmp_gtN (C : GC G X own cc nL fr lo mc ms) {a b : Nat} {off : Int} {tgt : Nat} (hd : decode cc pc = .ok (.if_icmp .gt off, 3)) (ht : (pc : Int) + off = (tgt : Int)) (ha : a < 2 ^ 31) (hb : b < 2 ^ 31) (kt : b < a → GW G X nL M kc ks tgt ls st) (kf : a ≤ b → GW G X nL M kc ks (pc + 3) ls st) : GW G X nL M kc ks pc ls (.int (nI b) :: .int (nI a) :: st) :=
  g_icmp_gt C hd ht (fun h => kt ((nI_ltI hb ha).mp h)) (fun h => kf (Nat.not_lt.mp (fun z => h ((nI_ltI hb ha).mpr z))))
theorem g_if_le (C : GC G X own cc nL fr lo mc ms) {x : Int32} {off : Int} {tgt : Nat} (hd : decode cc pc = .ok (.ifCond .le off, 3)) (ht : (pc : Int) + off = (tgt : Int)) (kt : x ≤ 0 → GW G X nL M kc ks tgt ls st) (kf : ¬ x ≤ 0 → GW G X nL M kc ks (pc + 3) ls st) : GW G X nL M kc ks pc ls (.int x :: st) := by
  obtain ⟨p, e, R, s, m, args, below, meth, c, Q, A⟩ := X
  obtain ⟨hx, hb, hown, hts, hK, hA, hml, hlocks, hR, hZ⟩ := C
  intro H locs la hP hS hv
  exact lv_if_le hx hb hd ht (fun h => kt h H locs la hP hS hv) (fun h => kf h H locs la hP hS hv)
theorem g_icmp_le (C : GC G X own cc nL fr lo mc ms) {x y : Int32} {off : Int} {tgt : Nat} (hd : decode cc pc = .ok (.if_icmp .le off, 3)) (ht : (pc : Int) + off = (tgt : Int)) (kt : x ≤ y → GW G X nL M kc ks tgt ls st) (kf : ¬ x ≤ y → GW G X nL M kc ks (pc + 3) ls st) : GW G X nL M kc ks pc ls (.int y :: .int x :: st) := by
  obtain ⟨p, e, R, s, m, args, below, meth, c, Q, A⟩ := X
  obtain ⟨hx, hb, hown, hts, hK, hA, hml, hlocks, hR, hZ⟩ := C
  intro H locs la hP hS hv
  exact lv_icmp_le hx hb hd ht (fun h => kt h H locs la hP hS hv) (fun h => kf h H locs la hP hS hv)
theorem g_icmp_leN (C : GC G X own cc nL fr lo mc ms) {a b : Nat} {off : Int} {tgt : Nat} (hd : decode cc pc = .ok (.if_icmp .le off, 3)) (ht : (pc : Int) + off = (tgt : Int)) (ha : a < 2 ^ 31) (hb : b < 2 ^ 31) (kt : a ≤ b → GW G X nL M kc ks tgt ls st) (kf : b < a → GW G X nL M kc ks (pc + 3) ls st) : GW G X nL M kc ks pc ls (.int (nI b) :: .int (nI a) :: st) :=
  g_icmp_le C hd ht (fun h => kt ((nI_leI ha hb).mp h)) (fun h => kf (Nat.not_le.mp (fun z => h ((nI_leI ha hb).mpr z))))
theorem g_goto (C : GC G X own cc nL fr lo mc ms) {off : Int} {tgt : Nat} (hd : decode cc pc = .ok (.goto off, 3)) (ht : (pc : Int) + off = (tgt : Int)) (kk : GW G X nL M kc ks tgt ls st) : GW G X nL M kc ks pc ls st := by
  obtain ⟨p, e, R, s, m, args, below, meth, c, Q, A⟩ := X
  obtain ⟨hx, hb, hown, hts, hK, hA, hml, hlocks, hR, hZ⟩ := C
  intro H locs la hP hS hv
  exact lv_goto hx hb hd ht (kk H locs la hP hS hv)
theorem g_ifnull (C : GC G X own cc nL fr lo mc ms) {a : Nat} {off : Int} (hd : decode cc pc = .ok (.ifnull off, 3)) (kk : GW G X nL M kc ks (pc + 3) ls st) : GW G X nL M kc ks pc ls (.ref a :: st) := by
  obtain ⟨p, e, R, s, m, args, below, meth, c, Q, A⟩ := X
  obtain ⟨hx, hb, hown, hts, hK, hA, hml, hlocks, hR, hZ⟩ := C
  intro H locs la hP hS hv
  exact lv_ifnull hx hb hd (kk H locs la hP hS hv)
theorem g_ifnonnull (C : GC G X own cc nL fr lo mc ms) {a : Nat} {off : Int} {tgt : Nat} (hd : decode cc pc = .ok (.ifnonnull off, 3)) (ht : (pc : Int) + off = (tgt : Int)) (kk : GW G X nL M kc ks tgt ls st) : GW G X nL M kc ks pc ls (.ref a :: st) := by
  obtain ⟨p, e, R, s, m, args, below, meth, c, Q, A⟩ := X
  obtain ⟨hx, hb, hown, hts, hK, hA, hml, hlocks, hR, hZ⟩ := C
  intro H locs la hP hS hv
  exact lv_ifnonnull hx hb hd ht (kk H locs la hP hS hv)
theorem g_ifnullN (C : GC G X own cc nL fr lo mc ms) {off : Int} {tgt : Nat} (hd : decode cc pc = .ok (.ifnull off, 3)) (ht : (pc : Int) + off = (tgt : Int)) (kk : GW G X nL M kc ks tgt ls st) : GW G X nL M kc ks pc ls (.null :: st) := by
  obtain ⟨p, e, R, s, m, args, below, meth, c, Q, A⟩ := X
  obtain ⟨hx, hb, hown, hts, hK, hA, hml, hlocks, hR, hZ⟩ := C
  intro H locs la hP hS hv
  exact lv_ifnullN hx hb hd ht (kk H locs la hP hS hv)
theorem g_ifnonnullN (C : GC G X own cc nL fr lo mc ms) {off : Int} (hd : decode cc pc = .ok (.ifnonnull off, 3)) (kk : GW G X nL M kc ks (pc + 3) ls st) : GW G X nL M kc ks pc ls (.null :: st) := by
  obtain ⟨p, e, R, s, m, args, below, meth, c, Q, A⟩ := X
  obtain ⟨hx, hb, hown, hts, hK, hA, hml, hlocks, hR, hZ⟩ := C
  intro H locs la hP hS hv
  exact lv_ifnonnullN hx hb hd (kk H locs la hP hS hv)
theorem g_loc {ls' : List (Nat × Value)} (ks0 : List Nat) (h : fm_sel ls ks0 = some ls') (kk : GW G X nL M kc ks pc ls' st) : GW G X nL M kc ks pc ls st := by
  obtain ⟨p, e, R, s, m, args, below, meth, c, Q, A⟩ := X
  intro H locs la hP hS hv
  exact kk H locs la hP hS (fm_has_sub hv (fm_sel_mem h))
theorem g_wide {k2 s2 : Nat} (h1 : kc ≤ k2) (h2 : ks ≤ s2) (kk : GW G X nL M k2 s2 pc ls st) : GW G X nL M kc ks pc ls st := by
  obtain ⟨p, e, R, s, m, args, below, meth, c, Q, A⟩ := X
  intro H locs la hP hS hv
  exact W.widen h1 h2 (kk H locs la hP hS hv)

/-- a field: the class own names it at place idx of its pool; it is field k of class ci -/
def fm_fld (own : String) (idx ci k : Nat) (Cn : String) (T : u_T) (N : Nat) (ty : Nat → FieldType) : Prop :=
  vwCl[ci]? = some (Cn, T, N) ∧ k < N ∧ (∀ w ∈ u_ws Cn T N, w ∈ fm_tbl) ∧ (∀ k, k < N → parseFieldDescriptor (T k).2.2.1 = some (ty k)) ∧ (∀ a, a < N → ∀ b, b < N → a ≠ b → (T a).2.1 ≠ (T b).2.1) ∧ Cond.fieldLink own idx Cn (T k).2.1 (T k).2.2.1 ∈ fm_tbl ∧ (T k).1 = Cn
/-- a class that own makes objects of -/
def fm_cls (own : String) (idx ci : Nat) (Cn : String) (T : u_T) (N : Nat) (ty : Nat → FieldType) (fs0 : List Value) : Prop :=
  vwCl[ci]? = some (Cn, T, N) ∧ (∀ w ∈ u_ws Cn T N, w ∈ fm_tbl) ∧ (∀ k, k < N → parseFieldDescriptor (T k).2.2.1 = some (ty k)) ∧ Cond.classLink own idx Cn ∈ fm_tbl ∧ Cond.instantiable Cn N ∈ fm_tbl ∧ Cond.initialized Cn ∈ fm_tbl ∧ ∀ j, j < N → defaultValue (ty j) = vp_V fs0 j
def GN (X : fm_X) (nm : String) : Prop := match X with
  | (_, _, _, _, _, _, _, meth, _, _, _) => meth.name = nm
theorem g_getf (C : GC G X own cc nL fr lo mc ms) {idx ci k : Nat} {Cn : String} {T : u_T} {N : Nat} {ty : Nat → FieldType} (F : fm_fld own idx ci k Cn T N ty) (hd : decode cc pc = .ok (.getfield idx, 3)) {a : Nat} {fs : List Value} {v : Value} (hM : M a = some (fm_O ci fs)) (hv0 : fs[k]? = some v) (kk : GW G X nL M kc ks (pc + 3) ls (v :: st)) : GW G X nL M kc ks pc ls (.ref a :: st) := by
  obtain ⟨p, e, R, s, m, args, below, meth, c, Q, A⟩ := X
  obtain ⟨hx, hb, hown, hts, hK, hA, hml, hlocks, hR, hZ⟩ := C
  intro H locs la hP hS hv
  obtain ⟨f1, f2, f3, f4, f5, f6, f7⟩ := F
  obtain ⟨L, f, k0, h1, h2, h3, hm, he, hk⟩ := hP.at hM
  exact va_get (D := G.2.1) hx hb hts f3 hown hK.1 h2 k0 hk f1 k f2 (hts _ f6) (fun x h => by rw [f7] at h; exact h) hv0 hd (kk H locs la hP hS hv)
theorem g_putf (C : GC G X own cc nL fr lo mc ms) {idx ci k : Nat} {Cn : String} {T : u_T} {N : Nat} {ty : Nat → FieldType} (F : fm_fld own idx ci k Cn T N ty) (hfin : (T k).2.2.2 = false) (hd : decode cc pc = .ok (.putfield idx, 3)) {a : Nat} {fs : List Value} {v : Value} (hM : M a = some (fm_O ci fs)) (hn : narrow (ty k) v = v) (hfit : fits (ty k) v = true) (hl : k < fs.length) (kk : GW G X nL (fm_set M a (fm_O ci (fs.set k v))) kc ks (pc + 3) ls st) : GW G X nL M kc ks pc ls (v :: .ref a :: st) := by
  obtain ⟨p, e, R, s, m, args, below, meth, c, Q, A⟩ := X
  obtain ⟨hx, hb, hown, hts, hK, hA, hml, hlocks, hR, hZ⟩ := C
  intro H locs la hP hS hv
  obtain ⟨f1, f2, f3, f4, f5, f6, f7⟩ := F
  obtain ⟨L, f, k0, h1, h2, h3, hm, he, hk⟩ := hP.at hM
  exact va_put (D := G.2.1) hx hb hts f3 ty f4 f5 hown hK.1 h2 h3 hS k0 hk f1 k f2 (hts _ f6) (fun x h => by rw [f7] at h; exact h) hfin (f4 k f2) hn hfit hl hd (fun H1 locs1 q1 q2 q3 => kk H1 locs1 la (fm_P.put h1 h3 hm he hk q1 q2) q3 hv)
theorem g_putF (C : GC G X own cc nL fr lo mc ms) (N0 : GN X "<init>") {idx ci k : Nat} {Cn : String} {T : u_T} {N : Nat} {ty : Nat → FieldType} (F : fm_fld own idx ci k Cn T N ty) (hfin : (T k).2.2.2 = true) (hdecl : Cn = own) (hd : decode cc pc = .ok (.putfield idx, 3)) {a : Nat} {fs : List Value} {v : Value} (hM : M a = some (fm_O ci fs)) (hn : narrow (ty k) v = v) (hfit : fits (ty k) v = true) (hl : k < fs.length) (kk : GW G X nL (fm_set M a (fm_O ci (fs.set k v))) kc ks (pc + 3) ls st) : GW G X nL M kc ks pc ls (v :: .ref a :: st) := by
  obtain ⟨p, e, R, s, m, args, below, meth, c, Q, A⟩ := X
  obtain ⟨hx, hb, hown, hts, hK, hA, hml, hlocks, hR, hZ⟩ := C
  intro H locs la hP hS hv
  obtain ⟨f1, f2, f3, f4, f5, f6, f7⟩ := F
  obtain ⟨L, f, k0, h1, h2, h3, hm, he, hk⟩ := hP.at hM
  exact va_putF (D := G.2.1) hx hb hts f3 ty f4 f5 hown hK.1 h2 h3 hS k0 hk f1 k f2 (hts _ f6) (fun x h => by rw [f7] at h; exact h) hfin N0 (by rw [f7]; exact hdecl) (f4 k f2) hn hfit hl hd (fun H1 locs1 q1 q2 q3 => kk H1 locs1 la (fm_P.put h1 h3 hm he hk q1 q2) q3 hv)
theorem g_iald (C : GC G X own cc nL fr lo mc ms) (hd : decode cc pc = .ok (.iaload, 1)) {a n : Nat} {f : Nat → Int32} {i : Int32} (hM : M a = some (fm_I G n f)) (hin : vp_in i n) (kk : GW G X nL M kc ks (pc + 1) ls (.int (f i.toNatClampNeg) :: st)) : GW G X nL M kc ks pc ls (.int i :: .ref a :: st) := by
  obtain ⟨p, e, R, s, m, args, below, meth, c, Q, A⟩ := X
  obtain ⟨hx, hb, hown, hts, hK, hA, hml, hlocks, hR, hZ⟩ := C
  intro H locs la hP hS hv
  obtain ⟨L, f0, k0, h1, h2, h3, hm, he, hk⟩ := hP.at hM
  exact va_iald hx hb hK.1 h2 k0 0 hk rfl hin hd (kk H locs la hP hS hv)
theorem g_ialdN (C : GC G X own cc nL fr lo mc ms) (hd : decode cc pc = .ok (.iaload, 1)) {a n j : Nat} {f : Nat → Int32} (hM : M a = some (fm_I G n f)) (hj : j < n) (hn : n < 2 ^ 31) (kk : GW G X nL M kc ks (pc + 1) ls (.int (f j) :: st)) : GW G X nL M kc ks pc ls (.int (nI j) :: .ref a :: st) :=
  g_iald C hd hM (vp_in_nI hj hn) (by rw [nI_clamp (Nat.lt_trans hj hn)]; exact kk)
theorem g_lald (C : GC G X own cc nL fr lo mc ms) (hd : decode cc pc = .ok (.laload, 1)) {a n : Nat} {f : Nat → Int64} {i : Int32} (hM : M a = some (fm_L G n f)) (hin : vp_in i n) (kk : GW G X nL M kc ks (pc + 1) ls (.long (f i.toNatClampNeg) :: st)) : GW G X nL M kc ks pc ls (.int i :: .ref a :: st) := by
  obtain ⟨p, e, R, s, m, args, below, meth, c, Q, A⟩ := X
  obtain ⟨hx, hb, hown, hts, hK, hA, hml, hlocks, hR, hZ⟩ := C
  intro H locs la hP hS hv
  obtain ⟨L, f0, k0, h1, h2, h3, hm, he, hk⟩ := hP.at hM
  exact va_lald hx hb hK.1 h2 k0 1 hk rfl hin hd (kk H locs la hP hS hv)
theorem g_laldN (C : GC G X own cc nL fr lo mc ms) (hd : decode cc pc = .ok (.laload, 1)) {a n j : Nat} {f : Nat → Int64} (hM : M a = some (fm_L G n f)) (hj : j < n) (hn : n < 2 ^ 31) (kk : GW G X nL M kc ks (pc + 1) ls (.long (f j) :: st)) : GW G X nL M kc ks pc ls (.int (nI j) :: .ref a :: st) :=
  g_lald C hd hM (vp_in_nI hj hn) (by rw [nI_clamp (Nat.lt_trans hj hn)]; exact kk)
theorem g_aald (C : GC G X own cc nL fr lo mc ms) (hd : decode cc pc = .ok (.aaload, 1)) {a t n : Nat} {Cn : String} {f : Nat → Option Nat} {i : Int32} (hM : M a = some (fm_R G t n f)) (ht : (fm_tys G.2.2)[t]? = some (G.2.2 t, .object Cn)) (hin : vp_in i n) (kk : GW G X nL M kc ks (pc + 1) ls (va_rf (f i.toNatClampNeg) :: st)) : GW G X nL M kc ks pc ls (.int i :: .ref a :: st) := by
  obtain ⟨p, e, R, s, m, args, below, meth, c, Q, A⟩ := X
  obtain ⟨hx, hb, hown, hts, hK, hA, hml, hlocks, hR, hZ⟩ := C
  intro H locs la hP hS hv
  obtain ⟨L, f0, k0, h1, h2, h3, hm, he, hk⟩ := hP.at hM
  exact va_aldq hx hb hK.1 h2 k0 t hk ht hin hd (kk H locs la hP hS hv)
theorem g_aaldN (C : GC G X own cc nL fr lo mc ms) (hd : decode cc pc = .ok (.aaload, 1)) {a t n j b : Nat} {Cn : String} {f : Nat → Option Nat} (hM : M a = some (fm_R G t n f)) (ht : (fm_tys G.2.2)[t]? = some (G.2.2 t, .object Cn)) (hj : j < n) (hn : n < 2 ^ 31) (hf : f j = some b) (kk : GW G X nL M kc ks (pc + 1) ls (.ref b :: st)) : GW G X nL M kc ks pc ls (.int (nI j) :: .ref a :: st) :=
  g_aald C hd hM ht (vp_in_nI hj hn) (by rw [nI_clamp (Nat.lt_trans hj hn), hf]; exact kk)
theorem g_aaldZ (C : GC G X own cc nL fr lo mc ms) (hd : decode cc pc = .ok (.aaload, 1)) {a t n j : Nat} {Cn : String} {f : Nat → Option Nat} (hM : M a = some (fm_R G t n f)) (ht : (fm_tys G.2.2)[t]? = some (G.2.2 t, .object Cn)) (hj : j < n) (hn : n < 2 ^ 31) (hf : f j = none) (kk : GW G X nL M kc ks (pc + 1) ls (.null :: st)) : GW G X nL M kc ks pc ls (.int (nI j) :: .ref a :: st) :=
  g_aald C hd hM ht (vp_in_nI hj hn) (by rw [nI_clamp (Nat.lt_trans hj hn), hf]; exact kk)
theorem g_iast (C : GC G X own cc nL fr lo mc ms) (hd : decode cc pc = .ok (.iastore, 1)) {a n : Nat} {f : Nat → Int32} {i x : Int32} (hM : M a = some (fm_I G n f)) (hin : vp_in i n) (kk : GW G X nL (fm_set M a (fm_I G n (upd f i.toNatClampNeg x))) kc ks (pc + 1) ls st) : GW G X nL M kc ks pc ls (.int x :: .int i :: .ref a :: st) := by
  obtain ⟨p, e, R, s, m, args, below, meth, c, Q, A⟩ := X
  obtain ⟨hx, hb, hown, hts, hK, hA, hml, hlocks, hR, hZ⟩ := C
  intro H locs la hP hS hv
  obtain ⟨L, f0, k0, h1, h2, h3, hm, he, hk⟩ := hP.at hM
  exact va_iast hx hb hK.1 h2 h3 hS k0 0 hk rfl hin hd (fun H1 locs1 q1 q2 q3 => kk H1 locs1 la (fm_P.put h1 h3 hm he hk q1 q2) q3 hv)
theorem g_iastN (C : GC G X own cc nL fr lo mc ms) (hd : decode cc pc = .ok (.iastore, 1)) {a n j : Nat} {f : Nat → Int32} {x : Int32} (hM : M a = some (fm_I G n f)) (hj : j < n) (hn : n < 2 ^ 31) (kk : GW G X nL (fm_set M a (fm_I G n (upd f j x))) kc ks (pc + 1) ls st) : GW G X nL M kc ks pc ls (.int x :: .int (nI j) :: .ref a :: st) :=
  g_iast C hd hM (vp_in_nI hj hn) (by rw [nI_clamp (Nat.lt_trans hj hn)]; exact kk)
theorem g_last (C : GC G X own cc nL fr lo mc ms) (hd : decode cc pc = .ok (.lastore, 1)) {a n : Nat} {f : Nat → Int64} {i : Int32} {x : Int64} (hM : M a = some (fm_L G n f)) (hin : vp_in i n) (kk : GW G X nL (fm_set M a (fm_L G n (vp_updL f i.toNatClampNeg x))) kc ks (pc + 1) ls st) : GW G X nL M kc ks pc ls (.long x :: .int i :: .ref a :: st) := by
  obtain ⟨p, e, R, s, m, args, below, meth, c, Q, A⟩ := X
  obtain ⟨hx, hb, hown, hts, hK, hA, hml, hlocks, hR, hZ⟩ := C
  intro H locs la hP hS hv
  obtain ⟨L, f0, k0, h1, h2, h3, hm, he, hk⟩ := hP.at hM
  exact va_last hx hb hK.1 h2 h3 hS k0 1 hk rfl hin hd (fun H1 locs1 q1 q2 q3 => kk H1 locs1 la (fm_P.put h1 h3 hm he hk q1 q2) q3 hv)
theorem g_lastN (C : GC G X own cc nL fr lo mc ms) (hd : decode cc pc = .ok (.lastore, 1)) {a n j : Nat} {f : Nat → Int64} {x : Int64} (hM : M a = some (fm_L G n f)) (hj : j < n) (hn : n < 2 ^ 31) (kk : GW G X nL (fm_set M a (fm_L G n (vp_updL f j x))) kc ks (pc + 1) ls st) : GW G X nL M kc ks pc ls (.long x :: .int (nI j) :: .ref a :: st) :=
  g_last C hd hM (vp_in_nI hj hn) (by rw [nI_clamp (Nat.lt_trans hj hn)]; exact kk)
theorem g_aast (C : GC G X own cc nL fr lo mc ms) (hd : decode cc pc = .ok (.aastore, 1)) {a t n j b ci : Nat} {r : vw_C} {vs : List Value} {f : Nat → Option Nat} (hM : M a = some (fm_R G t n f)) (ht : (fm_tys G.2.2)[t]? = some (G.2.2 t, .object r.1)) (hb0 : M b = some (fm_O ci vs)) (hci : vwCl[ci]? = some r) (hj : j < n) (hn : n < 2 ^ 31) (kk : GW G X nL (fm_set M a (fm_R G t n (va_up f j (some b)))) kc ks (pc + 1) ls st) : GW G X nL M kc ks pc ls (.ref b :: .int (nI j) :: .ref a :: st) := by
  obtain ⟨p, e, R, s, m, args, below, meth, c, Q, A⟩ := X
  obtain ⟨hx, hb, hown, hts, hK, hA, hml, hlocks, hR, hZ⟩ := C
  intro H locs la hP hS hv
  obtain ⟨L, f0, k0, h1, h2, h3, hm, he, hk⟩ := hP.at hM
  have hmb : b ∈ L ∧ f0 b = fm_O ci vs := by
    have h5 := h1 b
    rw [hb0] at h5
    by_cases hz : b ∈ L
    · rw [if_pos hz] at h5
      exact ⟨hz, (Option.some.inj h5).symm⟩
    · rw [if_neg hz] at h5; cases h5
  obtain ⟨k1, hk1⟩ := va_pl_get (X := []) (f := f0) hmb.1
  rw [hmb.2] at hk1
  have hcl : (nI j).toNatClampNeg = j := nI_clamp (Nat.lt_trans hj hn)
  refine va_astq hx hb hK.1 h2 h3 hS k0 t k1 ci hk ht hk1 hci (vp_in_nI hj hn) hd (fun H1 locs1 q1 q2 q3 => ?_)
  rw [hcl] at q1 q2
  exact kk H1 locs1 la (fm_P.put h1 h3 hm he hk q1 q2) q3 hv
theorem g_alen (C : GC G X own cc nL fr lo mc ms) (hd : decode cc pc = .ok (.arraylength, 1)) {a t : Nat} {x : vp_A} {ty : FieldType} (hM : M a = some (.inl (G.2.2 t, x))) (ht : (fm_tys G.2.2)[t]? = some (G.2.2 t, ty)) (kk : GW G X nL M kc ks (pc + 1) ls (.int (nI x.1) :: st)) : GW G X nL M kc ks pc ls (.ref a :: st) := by
  obtain ⟨p, e, R, s, m, args, below, meth, c, Q, A⟩ := X
  obtain ⟨hx, hb, hown, hts, hK, hA, hml, hlocks, hR, hZ⟩ := C
  intro H locs la hP hS hv
  obtain ⟨L, f0, k0, h1, h2, h3, hm, he, hk⟩ := hP.at hM
  exact va_alen hx hb hK.1 h2 k0 t hk ht rfl hd (kk H locs la hP hS hv)
theorem g_new (C : GC G X own cc nL fr lo mc ms) {idx ci N : Nat} {Cn : String} {T : u_T} {ty : Nat → FieldType} {fs0 : List Value} (F : fm_cls own idx ci Cn T N ty fs0) (hd : decode cc pc = .ok (.new idx, 3)) (hc : kc + 1 ≤ mc) (hs : ks + N ≤ ms) (kk : ∀ q : Nat, M q = none → GW G X nL (fm_set M q (fm_O ci fs0)) (kc + 1) (ks + N) (pc + 3) ls (.ref q :: st)) : GW G X nL M kc ks pc ls st := by
  obtain ⟨p, e, R, s, m, args, below, meth, c, Q, A⟩ := X
  obtain ⟨hx, hb, hown, hts, hK, hA, hml, hlocks, hR, hZ⟩ := C
  intro H locs la hP hS hv
  obtain ⟨f1, f2, f3, f4, f5, f6, f7⟩ := F
  obtain ⟨L, f, h1, h2, h3⟩ := hP
  refine va_new (D := G.2.1) (ci := ci) hx hb hts f2 ty f3 hown (hts _ f4) (hts _ f5) (hts _ f6) hK.1 h2 h3 hS hA f1 f7 (by rw [hR.2.2.1]; exact hc) (by rw [hR.2.2.2]; exact hs) hd (fun q H1 q1 q2 q3 => ?_)
  obtain ⟨n1, n2⟩ := fm_P.new h1 q1 q2
  exact kk q n1 H1 locs la n2 q3 hv
theorem g_newI (C : GC G X own cc nL fr lo mc ms) {at0 : ArrayType} (hat : newarray.typeOf at0 = .int) (hw : Cond.arrayClass .int ∈ fm_tbl) (hd : decode cc pc = .ok (.newarray at0, 2)) {N : Nat} (hN : N < 2 ^ 27) (hc : kc + 1 ≤ mc) (hs : ks + N ≤ ms) (kk : ∀ q : Nat, M q = none → GW G X nL (fm_set M q (fm_I G N (fun _ => 0))) (kc + 1) (ks + N) (pc + 2) ls (.ref q :: st)) : GW G X nL M kc ks pc ls (.int (nI N) :: st) := by
  obtain ⟨p, e, R, s, m, args, below, meth, c, Q, A⟩ := X
  obtain ⟨hx, hb, hown, hts, hK, hA, hml, hlocks, hR, hZ⟩ := C
  intro H locs la hP hS hv
  obtain ⟨L, f, h1, h2, h3⟩ := hP
  have hN2 : N < 2 ^ 31 := Nat.lt_trans hN (by decide)
  refine va_newa (a0 := (N, .inl (fun _ => 0))) (N' := N) hx hb (by rw [hat]; exact hts _ hw) hat hK.1 h2 h3 hS hA (fun cA => rfl) (nI_pos hN2) (nI_clamp hN2) (by show N * 4 ≤ 536870912; omega) (by rw [hR.2.2.1]; exact hc) (by rw [hR.2.2.2]; exact hs) hd (fun q cA H1 q0 q1 q2 q3 => ?_)
  have e1 := (q0.2 (fm_tys G.2.2).length (cA, .int) (by simp)).2
  have e2 := (hK.1.2 0 (G.2.2 0, .int) rfl).2
  have e3 : cA = G.2.2 0 := Option.some.inj ((show s.vm.findClass _ = some cA from e1).symm.trans e2)
  subst e3
  obtain ⟨n1, n2⟩ := fm_P.new h1 q1 q2
  exact kk q n1 H1 locs la n2 q3 hv
theorem g_newL (C : GC G X own cc nL fr lo mc ms) {at0 : ArrayType} (hat : newarray.typeOf at0 = .long) (hw : Cond.arrayClass .long ∈ fm_tbl) (hd : decode cc pc = .ok (.newarray at0, 2)) {N : Nat} (hN : N < 2 ^ 26) (hc : kc + 1 ≤ mc) (hs : ks + N ≤ ms) (kk : ∀ q : Nat, M q = none → GW G X nL (fm_set M q (fm_L G N (fun _ => 0))) (kc + 1) (ks + N) (pc + 2) ls (.ref q :: st)) : GW G X nL M kc ks pc ls (.int (nI N) :: st) := by
  obtain ⟨p, e, R, s, m, args, below, meth, c, Q, A⟩ := X
  obtain ⟨hx, hb, hown, hts, hK, hA, hml, hlocks, hR, hZ⟩ := C
  intro H locs la hP hS hv
  obtain ⟨L, f, h1, h2, h3⟩ := hP
  have hN2 : N < 2 ^ 31 := Nat.lt_trans hN (by decide)
  refine va_newa (a0 := (N, .inr (.inl (fun _ => 0)))) (N' := N) hx hb (by rw [hat]; exact hts _ hw) hat hK.1 h2 h3 hS hA (fun cA => rfl) (nI_pos hN2) (nI_clamp hN2) (by show N * 8 ≤ 536870912; omega) (by rw [hR.2.2.1]; exact hc) (by rw [hR.2.2.2]; exact hs) hd (fun q cA H1 q0 q1 q2 q3 => ?_)
  have e1 := (q0.2 (fm_tys G.2.2).length (cA, .long) (by simp)).2
  have e2 := (hK.1.2 1 (G.2.2 1, .long) rfl).2
  have e3 : cA = G.2.2 1 := Option.some.inj ((show s.vm.findClass _ = some cA from e1).symm.trans e2)
  subst e3
  obtain ⟨n1, n2⟩ := fm_P.new h1 q1 q2
  exact kk q n1 H1 locs la n2 q3 hv
theorem g_newR (C : GC G X own cc nL fr lo mc ms) {idx t : Nat} {Cn : String} (hlk : Cond.classLink own idx Cn ∈ fm_tbl) (hrf : Cn ∈ fm_refs) (ht : (fm_tys G.2.2)[t]? = some (G.2.2 t, .object Cn)) (hd : decode cc pc = .ok (.anewarray idx, 3)) {N : Nat} (hN : N < 2 ^ 27) (hc : kc + 1 ≤ mc) (hs : ks + N ≤ ms) (kk : ∀ q : Nat, M q = none → GW G X nL (fm_set M q (fm_R G t N (fun _ => none))) (kc + 1) (ks + N) (pc + 3) ls (.ref q :: st)) : GW G X nL M kc ks pc ls (.int (nI N) :: st) := by
  obtain ⟨p, e, R, s, m, args, below, meth, c, Q, A⟩ := X
  obtain ⟨hx, hb, hown, hts, hK, hA, hml, hlocks, hR, hZ⟩ := C
  intro H locs la hP hS hv
  obtain ⟨L, f, h1, h2, h3⟩ := hP
  have hN2 : N < 2 ^ 31 := Nat.lt_trans hN (by decide)
  refine va_newq (N' := N) hx hb hown (hts _ hlk) (hK.2.2 _ hrf) hK.1 h2 h3 hS hA (nI_pos hN2) (nI_clamp hN2) (by omega) (by rw [hR.2.2.1]; exact hc) (by rw [hR.2.2.2]; exact hs) hd (fun q cA H1 q0 q1 q2 q3 => ?_)
  obtain ⟨kA, comp, -, -, -, e1⟩ := (q0.2 (fm_tys G.2.2).length (cA, .object Cn) (by simp)).2
  obtain ⟨kA', comp', -, -, -, e2⟩ := (hK.1.2 t (G.2.2 t, .object Cn) ht).2
  have e3 : cA = G.2.2 t := Option.some.inj (e1.symm.trans e2)
  subst e3
  obtain ⟨n1, n2⟩ := fm_P.new h1 q1 q2
  exact kk q n1 H1 locs la n2 q3 hv

theorem fm_in {w : Cond} (h1 : w ∈ lw_tbl) (h2 : goodWord w = true) : w ∈ fm_tbl := List.mem_filter.mpr ⟨h1, h2⟩
theorem fm_good {ws : List Cond} (h : ∀ w ∈ ws, w ∈ fm_tbl) : GoodIn fm_tbl ws := fun w hw => ⟨h w hw, good_of_word (List.mem_filter.mp (h w hw)).2⟩
/-- a method's start: the heap holds M -/
def fm_Pre (G : fm_G) (M : fm_M) (sz : Nat) (U : State) : Prop := U.heap.size = sz ∧ fm_P G.2.1 (fm_A M sz) M U.heap ∧ fm_K G U ∧ fm_Z (fm_A M sz) U U.heap
/-- .. and its end: it answers v, the heap holds M1, and 'post v M1' -/
def fm_Qc (G : fm_G) (M : fm_M) (sz : Nat) (post : Option Value → fm_M → Prop) : Array Value → State → Outcome → State → Prop := fun _ st oc t => (∃ (v : Option Value) (M1 : fm_M), oc = .returned v ∧ post v M1 ∧ fm_P G.2.1 (fm_A M sz) M1 t.heap) ∧ va_F (fm_A M sz) st t
def fm_room (fr lo mc ms : Nat) : Room := { frames := fr, cells := mc, slots := ms, locals := lo }
/-- THE CONTRACT of a method that returns -/
def fm_Ct (G : fm_G) (y : MethodName) (cy : ByteArray) (maxL : Nat) (ret : Option FieldType) (fr lo mc ms : Nat) (av : List Value) (M : fm_M) (post : Option Value → fm_M → Prop) : Prop :=
  ∀ sz : Nat, Met G.1 y (Cond.code y cy maxL ret :: fm_tbl) (fm_room fr lo mc ms) (va_Pc av (fm_Pre G M sz)) (fm_Qc G M sz post) mc ms (fm_A M sz)
theorem fm_K.warm {G : fm_G} {s U : State} (hW : s.WarmedH U.vm) (h : fm_K G s) : fm_K G U := ⟨va_K.moved hW.alike h.1, fun q hq => va_Nw.warmM hW (h.2.1 q hq), fun C hC => va_AO.moved hW.alike (h.2.2 C hC)⟩
theorem fm_blind {G : fm_G} {M : fm_M} {sz : Nat} {av : List Value} : FrameBlind (va_Pc av (fm_Pre G M sz)) := by
  intro a U g mk h
  obtain ⟨h0, h1, h2, ⟨h3, h4, h5⟩, h6⟩ := h
  exact ⟨h0, h1, h2, ⟨va_K.moved (u := U) (U := U.calling g mk a) (Vm.Alike.refl U.vm) h3, fun q hq => va_Nw.same (u := U) (U := U.calling g mk a) rfl rfl (h4 q hq), fun C hC => va_AO.moved (u := U) (U := U.calling g mk a) (Vm.Alike.refl U.vm) (h5 C hC)⟩, fun q hq => vx_Zq.moved (u := U) (U := U.calling g mk a) (Vm.Alike.refl U.vm) (h6 q hq)⟩
theorem fm_sub {G : fm_G} {s : State} {A : Nat → Prop} {M : fm_M} {H : Heap} {locs : List Loc} (hP : fm_P G.2.1 A M H) (hS : va_S A s.heap H locs) (hA : ∀ q : Nat, s.heap.size ≤ q → A q) : ∀ q : Nat, fm_A M H.size q → A q := by
  intro q h
  rcases h with ⟨e, h⟩ | h
  · exact hP.mem h
  · exact hA q (Nat.le_trans hS.1 h)
theorem fm_pre {G : fm_G} {s U : State} {A : Nat → Prop} {M : fm_M} {H : Heap} {locs : List Loc} (hP : fm_P G.2.1 A M H) (hS : va_S A s.heap H locs) (hA : ∀ q : Nat, s.heap.size ≤ q → A q) (hK : fm_K G s) (hZ : fm_Z A s s.heap) (hU : U.heap = H) (hW : s.WarmedH U.vm) : fm_Pre G M H.size U := by
  refine ⟨by rw [hU], ?_, hK.warm hW, ?_⟩
  · rw [hU]
    exact hP.weak (fun a e h => Or.inl ⟨e, h⟩)
  · rw [hU]
    intro q hq
    exact vx_Zq.moved hW.alike (vx_Zq.narrow (vx_Zq.kept (hZ q hq) (fun a h1 h2 => hS.2.1 a h1 h2)) (fm_sub hP hS hA))
theorem fm_go {p : Program} {e : Env} {R : Room} {s : State} {m : MethodId} {args : Array Value} {below : List Frame} {meth : Method} {c : Code} {H : Heap} {locs : List Loc} {cells slots mc' ms' pc' : Nat} {Q : State → Prop} {A : Nat → Prop} {la : Array Slot} {st0 rest : List Value} {a : Array Value} {post : Option Value → fm_M → Prop}
    (hr : va_Run p G.1 e R s m args below meth c H locs cells slots mc' ms' (F0 m pc' la st0) rest (fm_Qc G M H.size post a) (fm_A M H.size)) (hS : va_S A s.heap H locs) (hsub : ∀ q : Nat, fm_A M H.size q → A q)
    (kk : ∀ (v : Option Value) (M1 : fm_M) (H1 : Heap) (locs1 : List Loc), post v M1 → fm_P G.2.1 A M1 H1 → va_S A s.heap H1 locs1 → W p G.1 e R s m args below meth c H1 locs1 (cells + mc') (slots + ms') Q (F0 m (pc' + 3) la (v.toList ++ rest))) : W p G.1 e R s m args below meth c H locs cells slots Q (F0 m pc' la st0) := by
  intro T hT X
  obtain ⟨v, st₀, t, T', L, h0, X', hL, e1, e2, ⟨⟨v', M1, hv, hp, hP1⟩, hz, hk⟩, st⟩ := hr T hT X
  cases hv
  rw [h0] at hz hk
  obtain ⟨t2, a1, b1⟩ := kk v M1 T'.heap (locs ++ L) hp (by rw [e1]; exact hP1.weak (fun a e h => hsub a (hP1.mem h)))
    ⟨Nat.le_trans hS.1 (by rw [e1]; exact hz), fun q h1 h2 => by rw [e1, hk q (Nat.lt_of_lt_of_le h1 hS.1) (fun z => h2 (hsub q z))]; exact hS.2.1 q h1 h2, fun q hq => by
      rcases List.mem_append.mp hq with h | h
      · exact hS.2.2 q h
      · exact hsub _ (hL q h)⟩ T' rfl X'
  exact ⟨t2, st t2 a1, b1⟩
/-- the words of a call -/
def fm_wd (y : MethodName) (n : Nat) : Prop := y.cls ≠ "java/lang/invoke/MethodHandle" ∧ y.cls ≠ "java/lang/invoke/VarHandle" ∧ (parseMethodDescriptor y.desc).map (fun d => d.parameters.length) = some n
def fm_wV (own : String) (idx : Nat) (y : MethodName) (cy : ByteArray) (maxL : Nat) (ret : Option FieldType) (n : Nat) : Prop :=
  (∀ w ∈ ([.methodLink own idx y, .instanceMethod y, .selects y.cls y y, .initialized y.cls, .code y cy maxL ret] : List Cond), w ∈ fm_tbl) ∧ fm_wd y n
def fm_wS (own : String) (idx : Nat) (y : MethodName) (cy : ByteArray) (maxL : Nat) (ret : Option FieldType) (n : Nat) : Prop :=
  (∀ w ∈ ([.methodLink own idx y, .static y, .initialized y.cls, .code y cy maxL ret] : List Cond), w ∈ fm_tbl) ∧ fm_wd y n
def fm_wI (own : String) (idx : Nat) (y : MethodName) (cy : ByteArray) (maxL : Nat) (n : Nat) : Prop :=
  (∀ w ∈ ([.methodLink own idx y, .instanceMethod y, .initialized y.cls, .code y cy maxL none] : List Cond), w ∈ fm_tbl) ∧ y.name = "<init>" ∧ fm_wd y n
def fm_wN (own : String) (idx : Nat) (y : MethodName) (host : String) (cy : ByteArray) (maxL : Nat) (n : Nat) : Prop :=
  (∀ w ∈ ([.instanceMethod y, .initialized y.cls, .code y cy maxL none] : List Cond), w ∈ fm_tbl) ∧ (own, idx, y, host) ∈ fm_nest ∧ y.name = "<init>" ∧ fm_wd y n
theorem g_callV (C : GC G X own cc nL fr lo mc ms) {y : MethodName} {cy : ByteArray} {maxL fr' lo' mc' ms' idx n ci b N : Nat} {ret : Option FieldType} {As rest : List Value} {post : Option Value → fm_M → Prop} {fs : List Value} {T : u_T} (hd : decode cc pc = .ok (.invokevirtual idx, 3)) (w : fm_wV own idx y cy maxL ret n) (hci : vwCl[ci]? = some (y.cls, T, N)) (K : fm_Ct G y cy maxL ret fr' lo' mc' ms' (.ref b :: As) M post) (hM : M b = some (fm_O ci fs)) (hn : As.length = n) (hst : st = As.reverse ++ .ref b :: rest) (hcat : (rest.map fun v => v.category).sum ≤ 8) (hfr : fr' + 1 ≤ fr) (hlo : 8 + (maxL + 11) + lo' ≤ lo) (hc : kc + mc' ≤ mc) (hs : ks + ms' ≤ ms)
    (kk : ∀ (v : Option Value) (M1 : fm_M), post v M1 → GW G X nL M1 (kc + mc') (ks + ms') (pc + 3) ls (v.toList ++ rest)) : GW G X nL M kc ks pc ls st := by
  obtain ⟨p, e, R, s, m, args, below, meth, c, Q, A⟩ := X
  obtain ⟨hx, hb, hown, hts, hK, hA, hml, hlocks, hR, hZ⟩ := C
  intro H locs la hP hS hv
  subst hst
  obtain ⟨L, f, k0, h1, h2, h3, hm, he, hk⟩ := hP.at hM
  refine fm_go (va_runV (As := As) (rest := rest) ⟨hx, hb, hml, hown, hts⟩ (K H.size) (cwV n hts (fm_good (fun w0 h0 => ?_)) rfl rfl rfl ⟨rfl, w.2⟩ ⟨by rw [hR.1]; exact hfr, by rw [hR.2.1]; exact hlo⟩) ⟨fm_blind, va_recv hK.1 h2 (ci := ci) (q0 := k0) hci hk, fun U hU hW => ⟨rfl, fm_pre hP hS hA hK hZ hU hW⟩⟩ rfl hn hv.1 rfl (lv_room hcat) hd ⟨by rw [hR.2.2.1]; exact hc, by rw [hR.2.2.2]; exact hs⟩) hS (fm_sub hP hS hA) (fun v M1 H1 locs1 hp hP1 hS1 => kk v M1 hp H1 locs1 la hP1 hS1 hv)
  rcases List.mem_append.mp h0 with h0 | h0
  · exact w.1 w0 (List.mem_append_left [Cond.code y cy maxL ret] h0)
  · rcases List.mem_cons.mp h0 with rfl | h0
    · exact w.1 _ (List.mem_append_right ([.methodLink own idx y, .instanceMethod y, .selects y.cls y y, .initialized y.cls] : List Cond) (List.mem_singleton.mpr rfl))
    · exact h0
theorem g_callS (C : GC G X own cc nL fr lo mc ms) {y : MethodName} {cy : ByteArray} {maxL fr' lo' mc' ms' idx n : Nat} {ret : Option FieldType} {As rest : List Value} {post : Option Value → fm_M → Prop} (hd : decode cc pc = .ok (.invokestatic idx, 3)) (w : fm_wS own idx y cy maxL ret n) (K : fm_Ct G y cy maxL ret fr' lo' mc' ms' As M post) (hn : As.length = n) (hst : st = As.reverse ++ rest) (hcat : (rest.map fun v => v.category).sum ≤ 8) (hfr : fr' + 1 ≤ fr) (hlo : 8 + (maxL + 11) + lo' ≤ lo) (hc : kc + mc' ≤ mc) (hs : ks + ms' ≤ ms)
    (kk : ∀ (v : Option Value) (M1 : fm_M), post v M1 → GW G X nL M1 (kc + mc') (ks + ms') (pc + 3) ls (v.toList ++ rest)) : GW G X nL M kc ks pc ls st := by
  obtain ⟨p, e, R, s, m, args, below, meth, c, Q, A⟩ := X
  obtain ⟨hx, hb, hown, hts, hK, hA, hml, hlocks, hR, hZ⟩ := C
  intro H locs la hP hS hv
  subst hst
  refine fm_go (va_runS (As := As) (rest := rest) ⟨hx, hb, hml, hown, hts⟩ (K H.size) (va_cwS n hts (fm_good (fun w0 h0 => ?_)) rfl rfl rfl w.2 ⟨by rw [hR.1]; exact hfr, by rw [hR.2.1]; exact hlo⟩) ⟨fm_blind, fun U hU hW => ⟨rfl, fm_pre hP hS hA hK hZ hU hW⟩⟩ rfl hn hv.1 rfl (lv_room hcat) hd ⟨by rw [hR.2.2.1]; exact hc, by rw [hR.2.2.2]; exact hs⟩) hS (fm_sub hP hS hA) (fun v M1 H1 locs1 hp hP1 hS1 => kk v M1 hp H1 locs1 la hP1 hS1 hv)
  rcases List.mem_append.mp h0 with h0 | h0
  · exact w.1 w0 (List.mem_append_left [Cond.code y cy maxL ret] h0)
  · rcases List.mem_cons.mp h0 with rfl | h0
    · exact w.1 _ (List.mem_append_right ([.methodLink own idx y, .static y, .initialized y.cls] : List Cond) (List.mem_singleton.mpr rfl))
    · exact h0
theorem g_callI (C : GC G X own cc nL fr lo mc ms) {y : MethodName} {cy : ByteArray} {maxL fr' lo' mc' ms' idx n b : Nat} {As rest : List Value} {post : Option Value → fm_M → Prop} (hd : decode cc pc = .ok (.invokespecial idx, 3)) (w : fm_wI own idx y cy maxL n) (K : fm_Ct G y cy maxL none fr' lo' mc' ms' (.ref b :: As) M post) (hn : As.length = n) (hst : st = As.reverse ++ .ref b :: rest) (hcat : (rest.map fun v => v.category).sum ≤ 8) (hfr : fr' + 1 ≤ fr) (hlo : 8 + (maxL + 11) + lo' ≤ lo) (hc : kc + mc' ≤ mc) (hs : ks + ms' ≤ ms)
    (kk : ∀ (v : Option Value) (M1 : fm_M), post v M1 → GW G X nL M1 (kc + mc') (ks + ms') (pc + 3) ls (v.toList ++ rest)) : GW G X nL M kc ks pc ls st := by
  obtain ⟨p, e, R, s, m, args, below, meth, c, Q, A⟩ := X
  obtain ⟨hx, hb, hown, hts, hK, hA, hml, hlocks, hR, hZ⟩ := C
  intro H locs la hP hS hv
  subst hst
  refine fm_go (va_runI (As := As) (rest := rest) ⟨hx, hb, hml, hown, hts⟩ (K H.size) (cwI n hts (fm_good (fun w0 h0 => ?_)) rfl rfl rfl (hts _ (w.1 _ (by simp))) (hts _ (w.1 _ (by simp))) (hts _ (w.1 _ (by simp))) w.2.1 w.2.2 ⟨by rw [hR.1]; exact hfr, by rw [hR.2.1]; exact hlo⟩) ⟨fm_blind, fun U hU hW => ⟨rfl, fm_pre hP hS hA hK hZ hU hW⟩⟩ rfl hn hv.1 rfl (lv_room hcat) hd ⟨by rw [hR.2.2.1]; exact hc, by rw [hR.2.2.2]; exact hs⟩) hS (fm_sub hP hS hA) (fun v M1 H1 locs1 hp hP1 hS1 => kk v M1 hp H1 locs1 la hP1 hS1 hv)
  rcases List.mem_cons.mp h0 with rfl | h0
  · exact w.1 _ (by simp)
  · exact h0
theorem g_callN (C : GC G X own cc nL fr lo mc ms) {y : MethodName} {host : String} {cy : ByteArray} {maxL fr' lo' mc' ms' idx n b : Nat} {As rest : List Value} {post : Option Value → fm_M → Prop} (hd : decode cc pc = .ok (.invokespecial idx, 3)) (w : fm_wN own idx y host cy maxL n) (K : fm_Ct G y cy maxL none fr' lo' mc' ms' (.ref b :: As) M post) (hn : As.length = n) (hst : st = As.reverse ++ .ref b :: rest) (hcat : (rest.map fun v => v.category).sum ≤ 8) (hfr : fr' + 1 ≤ fr) (hlo : 8 + (maxL + 11) + lo' ≤ lo) (hc : kc + mc' ≤ mc) (hs : ks + ms' ≤ ms)
    (kk : ∀ (v : Option Value) (M1 : fm_M), post v M1 → GW G X nL M1 (kc + mc') (ks + ms') (pc + 3) ls (v.toList ++ rest)) : GW G X nL M kc ks pc ls st := by
  obtain ⟨p, e, R, s, m, args, below, meth, c, Q, A⟩ := X
  obtain ⟨hx, hb, hown, hts, hK, hA, hml, hlocks, hR, hZ⟩ := C
  intro H locs la hP hS hv
  subst hst
  refine fm_go (va_runIN (As := As) (rest := rest) ⟨hx, hb, hml, hown, hts⟩ (K H.size) ⟨va_cnB n hts (fm_good (fun w0 h0 => ?_)) rfl rfl rfl (hK.2.1 _ w.2.1) (hts _ (w.1 _ (by simp))) w.2.2.2 ⟨by rw [hR.1]; exact hfr, by rw [hR.2.1]; exact hlo⟩, w.2.2.1, hts _ (w.1 _ (by simp))⟩ ⟨fm_blind, fun U hU hW => ⟨rfl, fm_pre hP hS hA hK hZ hU hW⟩⟩ rfl hn hv.1 rfl (lv_room hcat) hd ⟨by rw [hR.2.2.1]; exact hc, by rw [hR.2.2.2]; exact hs⟩) hS (fm_sub hP hS hA) (fun v M1 H1 locs1 hp hP1 hS1 => kk v M1 hp H1 locs1 la hP1 hS1 hv)
  rcases List.mem_cons.mp h0 with rfl | h0
  · exact w.1 _ (by simp)
  · exact h0
/-- Object's constructor -/
theorem g_objI (C : GC G X own cc nL fr lo mc ms) {idx b : Nat} (hd : decode cc pc = .ok (.invokespecial idx, 3)) (w : ∀ w ∈ ([.methodLink own idx objectInit, .instanceMethod objectInit, .code objectInit ⟨#[0xb1]⟩ 1 none] : List Cond), w ∈ fm_tbl) (hfr : 1 ≤ fr) (hlo : (st.map fun v => v.category).sum + 12 ≤ lo) (kk : GW G X nL M kc ks (pc + 3) ls st) : GW G X nL M kc ks pc ls (.ref b :: st) := by
  obtain ⟨p, e, R, s, m, args, below, meth, c, Q, A⟩ := X
  obtain ⟨hx, hb, hown, hts, hK, hA, hml, hlocks, hR, hZ⟩ := C
  intro H locs la hP hS hv
  exact W.objInit hx hb hown (hts _ (w _ (by simp))) (hts _ (w _ (by simp))) (hts _ (w _ (by simp))) rfl (by rw [hml]; exact hv.1) rfl hd (by rw [hR.1]; exact hfr) (by rw [hR.2.1]; show 2 * 0 + _ + 12 ≤ lo; omega) (kk H locs la hP hS hv)
/-- how a method ends -/
def fm_ret (cy : ByteArray) (pc : Nat) (ret : Option FieldType) (v : Option Value) : Prop :=
  (ret = none ∧ v = none ∧ decode cy pc = .ok (.return_, 1)) ∨ (∃ (x : Int32) (ty : FieldType), ret = some ty ∧ v = some (.int x) ∧ narrow ty (.int x) = .int x ∧ decode cy pc = .ok (.ireturn, 1)) ∨ (∃ x : Int64, ret = some .long ∧ v = some (.long x) ∧ decode cy pc = .ok (.lreturn, 1)) ∨ (∃ (a : Nat) (n : String), ret = some (.object n) ∧ v = some (.ref a) ∧ decode cy pc = .ok (.areturn, 1))
theorem fm_retV {cy : ByteArray} {pc : Nat} (h : decode cy pc = .ok (.return_, 1)) : fm_ret cy pc none none := Or.inl ⟨rfl, rfl, h⟩
theorem fm_retI {cy : ByteArray} {pc : Nat} {x : Int32} (h : decode cy pc = .ok (.ireturn, 1)) : fm_ret cy pc (some .int) (some (.int x)) := Or.inr (Or.inl ⟨x, .int, rfl, rfl, rfl, h⟩)
theorem fm_retZ {cy : ByteArray} {pc : Nat} {x : Int32} (hx : x = 0 ∨ x = 1) (h : decode cy pc = .ok (.ireturn, 1)) : fm_ret cy pc (some .boolean) (some (.int x)) := Or.inr (Or.inl ⟨x, .boolean, rfl, rfl, by rcases hx with rfl | rfl <;> rfl, h⟩)
theorem fm_retL {cy : ByteArray} {pc : Nat} {x : Int64} (h : decode cy pc = .ok (.lreturn, 1)) : fm_ret cy pc (some .long) (some (.long x)) := Or.inr (Or.inr (Or.inl ⟨x, rfl, rfl, h⟩))
theorem fm_retA {cy : ByteArray} {pc a : Nat} {n : String} (h : decode cy pc = .ok (.areturn, 1)) : fm_ret cy pc (some (.object n)) (some (.ref a)) := Or.inr (Or.inr (Or.inr ⟨a, n, rfl, rfl, h⟩))
/-- THE HEAD of a method that returns: walk it from its first instruction; 'ret' ends the walk -/
theorem fm_head {G : fm_G} {y : MethodName} {cy : ByteArray} {maxL fr lo mc ms : Nat} {ret : Option FieldType} {av : List Value} {M : fm_M} {post : Option Value → fm_M → Prop} {ls0 : List (Nat × Value)} (hy : plainName y.cls = true) (hlen : (lg_sl av).length ≤ maxL) (hls : lv_args 0 av = ls0)
    (body : ∀ X : fm_X, GC G X y.cls cy maxL fr lo mc ms → GN X y.name → (∀ (v : Option Value) (M1 : fm_M) (k n pc : Nat) (ls : List (Nat × Value)), fm_ret cy pc ret v → post v M1 → k ≤ mc → n ≤ ms → GW G X maxL M1 k n pc ls v.toList) → GW G X maxL M 0 0 0 ls0 []) : fm_Ct G y cy maxL ret fr lo mc ms av M post := by
  intro sz
  refine Met.ofW (cc := cy) (maxL := maxL) (ret := ret) hy rfl ?_
  intro p e s m args below meth c s₁ B hml hv
  obtain ⟨rfl, hsz, hP, hK, hZ⟩ := hv
  have hts0 := atoms_spec (ws := Cond.code y cy maxL ret :: fm_tbl) B.pre
  have hA : ∀ q : Nat, s.heap.size ≤ q → fm_A M sz q := fun q h => Or.inr (by rw [← hsz]; exact h)
  have hlocks := B.notSynchronized
  have hx := B.exec
  have hb := B.bytes
  have hr := B.returns
  have b0 := body (p, e, (headSpec (Cond.code y cy maxL ret :: fm_tbl) (fm_room fr lo mc ms)).room, s, m, av.toArray, below, meth, c, MQ below (fm_Qc G M sz post) av.toArray s mc ms (fm_A M sz), fm_A M sz)
    ⟨hx, hb, findClass_of_methodNamed B.named, fun w hw => hts0 w (List.mem_cons_of_mem _ hw), hK, hA, hml, hlocks, ⟨rfl, rfl, rfl, rfl⟩, hZ⟩ (name_of_methodNamed B.named B.method).1 ?_
  · rw [lg_entry_eq]
    exact b0 s.heap [] _ hP va_S.rf (by rw [← hls]; exact lv_entry av hlen)
  · intro v M1 k n pc ls hret hpost hk hn H locs la hP1 hS hv
    have hq : ∀ t : State, t.heap = H → s.WarmedH t.vm → fm_Qc G M sz post av.toArray s (.returned v) t := fun t ht _ => ⟨⟨v, M1, rfl, hpost, by rw [ht]; exact hP1⟩, hS.F ht⟩
    refine W.widen hk hn ?_
    rcases hret with ⟨r1, rfl, r3⟩ | ⟨x, ty, r1, rfl, r2, r3⟩ | ⟨x, r1, rfl, r3⟩ | ⟨a, nn, r1, rfl, r3⟩
    · exact W.vret hx hb (by rw [hr]; exact r1) hq hS.2.2 r3
    · exact W.zret hx hb (by rw [hr]; exact r1) r2 hq hS.2.2 r3
    · exact W.lret hx hb (by rw [hr]; exact r1) hq hS.2.2 r3
    · exact W.aret hx hb (by rw [hr]; exact r1) (Or.inl ⟨nn, rfl⟩) (Or.inr ⟨a, rfl⟩) hq hS.2.2 r3

end FMR
end
section
theorem fm_ix (i : Nat) {w : Cond} (h : lw_tbl[i]? = some w) (g : goodWord w = true) : w ∈ fm_tbl := fm_in (List.mem_of_getElem? h) g
theorem inF_X0 : ∀ w ∈ u_ws RX0 TX0 1, w ∈ fm_tbl := by
  show ∀ w ∈ ([.laysFinal RX0 RX0 "planes" "[J"] : List Cond), w ∈ fm_tbl
  exact (List.forall_mem_cons.mpr ⟨fm_ix 102 (by decide +kernel) rfl, (fun _ h => nomatch h)⟩)
theorem inF_X1 : ∀ w ∈ u_ws RX1 TX1 3, w ∈ fm_tbl := by
  show ∀ w ∈ ([.laysFinal RX1 RX1 "all" "LLetterCounts$CountSet;", .laysFinal RX1 RX1 "newest" "LLetterCounts$CountSet;", .laysFinal RX1 RX1 "rounds" "[I"] : List Cond), w ∈ fm_tbl
  exact (List.forall_mem_cons.mpr ⟨fm_ix 281 (by decide +kernel) rfl, (List.forall_mem_cons.mpr ⟨fm_ix 283 (by decide +kernel) rfl, (List.forall_mem_cons.mpr ⟨fm_ix 285 (by decide +kernel) rfl, (fun _ h => nomatch h)⟩)⟩)⟩)
theorem inF_X2 : ∀ w ∈ u_ws RX2 TX2 5, w ∈ fm_tbl := by
  show ∀ w ∈ ([.laysFinal RX2 RX2 "had" "LLetterCounts$CountSet;", .laysFinal RX2 RX2 "newest" "LLetterCounts$CountSet;", .laysFinal RX2 RX2 "found" "LLetterCounts$CountSet;", .laysFinal RX2 RX2 "heights" "[I", .laysFinal RX2 RX2 "roots" "[I"] : List Cond), w ∈ fm_tbl
  exact (List.forall_mem_cons.mpr ⟨fm_ix 119 (by decide +kernel) rfl, (List.forall_mem_cons.mpr ⟨fm_ix 121 (by decide +kernel) rfl, (List.forall_mem_cons.mpr ⟨fm_ix 123 (by decide +kernel) rfl, (List.forall_mem_cons.mpr ⟨fm_ix 125 (by decide +kernel) rfl, (List.forall_mem_cons.mpr ⟨fm_ix 127 (by decide +kernel) rfl, (fun _ h => nomatch h)⟩)⟩)⟩)⟩)⟩)
theorem inF_X3 : ∀ w ∈ u_ws RX3 TX3 6, w ∈ fm_tbl := by
  show ∀ w ∈ ([.lays RX3 RX3 "left" "I", .lays RX3 RX3 "uses" "I", .lays RX3 RX3 "letterCount" "I", .lays RX3 RX3 "size" "I", .laysFinal RX3 RX3 "parts" "[I", .laysFinal RX3 RX3 "ends" "[LLetterCounts$End;"] : List Cond), w ∈ fm_tbl
  exact (List.forall_mem_cons.mpr ⟨fm_ix 298 (by decide +kernel) rfl, (List.forall_mem_cons.mpr ⟨fm_ix 300 (by decide +kernel) rfl, (List.forall_mem_cons.mpr ⟨fm_ix 302 (by decide +kernel) rfl, (List.forall_mem_cons.mpr ⟨fm_ix 304 (by decide +kernel) rfl, (List.forall_mem_cons.mpr ⟨fm_ix 306 (by decide +kernel) rfl, (List.forall_mem_cons.mpr ⟨fm_ix 308 (by decide +kernel) rfl, (fun _ h => nomatch h)⟩)⟩)⟩)⟩)⟩)⟩)
theorem inF_X4 : ∀ w ∈ u_ws RX4 TX4 7, w ∈ fm_tbl := by
  show ∀ w ∈ ([.laysFinal RX4 RX4 "steps" "[I", .laysFinal RX4 RX4 "uses" "[I", .lays RX4 RX4 "size" "I", .laysFinal RX4 RX4 "openNonterminals" "[I", .laysFinal RX4 RX4 "openCounts" "[I", .lays RX4 RX4 "open" "I", .laysFinal RX4 RX4 "below" "[I"] : List Cond), w ∈ fm_tbl
  exact (List.forall_mem_cons.mpr ⟨fm_ix 74 (by decide +kernel) rfl, (List.forall_mem_cons.mpr ⟨fm_ix 76 (by decide +kernel) rfl, (List.forall_mem_cons.mpr ⟨fm_ix 78 (by decide +kernel) rfl, (List.forall_mem_cons.mpr ⟨fm_ix 80 (by decide +kernel) rfl, (List.forall_mem_cons.mpr ⟨fm_ix 82 (by decide +kernel) rfl, (List.forall_mem_cons.mpr ⟨fm_ix 84 (by decide +kernel) rfl, (List.forall_mem_cons.mpr ⟨fm_ix 86 (by decide +kernel) rfl, (fun _ h => nomatch h)⟩)⟩)⟩)⟩)⟩)⟩)⟩)
theorem inF_X5 : ∀ w ∈ u_ws RX5 TX5 7, w ∈ fm_tbl := by
  show ∀ w ∈ ([.laysFinal RX5 RX5 "nonterminals" "[LLetterCounts$Nonterminal;", .laysFinal RX5 RX5 "rules" "[LLetterCounts$Rule;", .lays RX5 RX5 "made" "I", .lays RX5 RX5 "stale" "Z", .laysFinal RX5 RX5 "steps" "[I", .lays RX5 RX5 "stepsMade" "I", .laysFinal RX5 RX5 "walk" "LLetterCounts$Walk;"] : List Cond), w ∈ fm_tbl
  exact (List.forall_mem_cons.mpr ⟨fm_ix 137 (by decide +kernel) rfl, (List.forall_mem_cons.mpr ⟨fm_ix 139 (by decide +kernel) rfl, (List.forall_mem_cons.mpr ⟨fm_ix 141 (by decide +kernel) rfl, (List.forall_mem_cons.mpr ⟨fm_ix 143 (by decide +kernel) rfl, (List.forall_mem_cons.mpr ⟨fm_ix 145 (by decide +kernel) rfl, (List.forall_mem_cons.mpr ⟨fm_ix 147 (by decide +kernel) rfl, (List.forall_mem_cons.mpr ⟨fm_ix 149 (by decide +kernel) rfl, (fun _ h => nomatch h)⟩)⟩)⟩)⟩)⟩)⟩)⟩)
theorem inF_X6 : ∀ w ∈ u_ws RX6 TX6 15, w ∈ fm_tbl := by
  show ∀ w ∈ ([.lays RX6 RX6 "thrown" "I", .lays RX6 RX6 "rules" "I", .laysFinal RX6 RX6 "lefts" "[I", .laysFinal RX6 RX6 "symbols" "[I", .laysFinal RX6 RX6 "uses" "[I", .laysFinal RX6 RX6 "heights" "[I", .lays RX6 RX6 "reckoned" "Z", .laysFinal RX6 RX6 "sums" "[Z", .lays RX6 RX6 "steps" "I", .laysFinal RX6 RX6 "tree" "[I", .lays RX6 RX6 "newSteps" "I", .laysFinal RX6 RX6 "newTree" "[I", .laysFinal RX6 RX6 "newUses" "[I", .lays RX6 RX6 "height" "I", .laysFinal RX6 RX6 "pile" "[I"] : List Cond), w ∈ fm_tbl
  exact (List.forall_mem_cons.mpr ⟨fm_ix 624 (by decide +kernel) rfl, (List.forall_mem_cons.mpr ⟨fm_ix 626 (by decide +kernel) rfl, (List.forall_mem_cons.mpr ⟨fm_ix 628 (by decide +kernel) rfl, (List.forall_mem_cons.mpr ⟨fm_ix 630 (by decide +kernel) rfl, (List.forall_mem_cons.mpr ⟨fm_ix 632 (by decide +kernel) rfl, (List.forall_mem_cons.mpr ⟨fm_ix 634 (by decide +kernel) rfl, (List.forall_mem_cons.mpr ⟨fm_ix 636 (by decide +kernel) rfl, (List.forall_mem_cons.mpr ⟨fm_ix 638 (by decide +kernel) rfl, (List.forall_mem_cons.mpr ⟨fm_ix 640 (by decide +kernel) rfl, (List.forall_mem_cons.mpr ⟨fm_ix 642 (by decide +kernel) rfl, (List.forall_mem_cons.mpr ⟨fm_ix 644 (by decide +kernel) rfl, (List.forall_mem_cons.mpr ⟨fm_ix 646 (by decide +kernel) rfl, (List.forall_mem_cons.mpr ⟨fm_ix 648 (by decide +kernel) rfl, (List.forall_mem_cons.mpr ⟨fm_ix 650 (by decide +kernel) rfl, (List.forall_mem_cons.mpr ⟨fm_ix 652 (by decide +kernel) rfl, (fun _ h => nomatch h)⟩)⟩)⟩)⟩)⟩)⟩)⟩)⟩)⟩)⟩)⟩)⟩)⟩)⟩)⟩)
theorem fl_X4_9 : fm_fld RX4 9 4 0 RX4 TX4 7 tyX4 := ⟨rfl, by decide, inF_X4, tyX4_ok, nmX4, fm_ix 64 (by decide +kernel) rfl, rfl⟩
theorem fl_X5_118 : fm_fld RX5 118 4 0 RX4 TX4 7 tyX4 := ⟨rfl, by decide, inF_X4, tyX4_ok, nmX4, fm_ix 65 (by decide +kernel) rfl, rfl⟩
theorem fl_X4_15 : fm_fld RX4 15 4 1 RX4 TX4 7 tyX4 := ⟨rfl, by decide, inF_X4, tyX4_ok, nmX4, fm_ix 66 (by decide +kernel) rfl, rfl⟩
theorem fl_X5_125 : fm_fld RX5 125 4 1 RX4 TX4 7 tyX4 := ⟨rfl, by decide, inF_X4, tyX4_ok, nmX4, fm_ix 67 (by decide +kernel) rfl, rfl⟩
theorem fl_X4_18 : fm_fld RX4 18 4 2 RX4 TX4 7 tyX4 := ⟨rfl, by decide, inF_X4, tyX4_ok, nmX4, fm_ix 68 (by decide +kernel) rfl, rfl⟩
theorem fl_X5_116 : fm_fld RX5 116 4 2 RX4 TX4 7 tyX4 := ⟨rfl, by decide, inF_X4, tyX4_ok, nmX4, fm_ix 69 (by decide +kernel) rfl, rfl⟩
theorem fl_X4_22 : fm_fld RX4 22 4 3 RX4 TX4 7 tyX4 := ⟨rfl, by decide, inF_X4, tyX4_ok, nmX4, fm_ix 70 (by decide +kernel) rfl, rfl⟩
theorem fl_X4_25 : fm_fld RX4 25 4 4 RX4 TX4 7 tyX4 := ⟨rfl, by decide, inF_X4, tyX4_ok, nmX4, fm_ix 71 (by decide +kernel) rfl, rfl⟩
theorem fl_X4_28 : fm_fld RX4 28 4 5 RX4 TX4 7 tyX4 := ⟨rfl, by decide, inF_X4, tyX4_ok, nmX4, fm_ix 72 (by decide +kernel) rfl, rfl⟩
theorem fl_X4_31 : fm_fld RX4 31 4 6 RX4 TX4 7 tyX4 := ⟨rfl, by decide, inF_X4, tyX4_ok, nmX4, fm_ix 73 (by decide +kernel) rfl, rfl⟩
theorem fl_X0_11 : fm_fld RX0 11 0 0 RX0 TX0 1 tyX0 := ⟨rfl, by decide, inF_X0, tyX0_ok, nmX0, fm_ix 101 (by decide +kernel) rfl, rfl⟩
theorem fl_X2_12 : fm_fld RX2 12 2 0 RX2 TX2 5 tyX2 := ⟨rfl, by decide, inF_X2, tyX2_ok, nmX2, fm_ix 106 (by decide +kernel) rfl, rfl⟩
theorem fl_X1_49 : fm_fld RX1 49 2 0 RX2 TX2 5 tyX2 := ⟨rfl, by decide, inF_X2, tyX2_ok, nmX2, fm_ix 107 (by decide +kernel) rfl, rfl⟩
theorem fl_X5_79 : fm_fld RX5 79 2 0 RX2 TX2 5 tyX2 := ⟨rfl, by decide, inF_X2, tyX2_ok, nmX2, fm_ix 108 (by decide +kernel) rfl, rfl⟩
theorem fl_X2_18 : fm_fld RX2 18 2 1 RX2 TX2 5 tyX2 := ⟨rfl, by decide, inF_X2, tyX2_ok, nmX2, fm_ix 109 (by decide +kernel) rfl, rfl⟩
theorem fl_X1_42 : fm_fld RX1 42 2 1 RX2 TX2 5 tyX2 := ⟨rfl, by decide, inF_X2, tyX2_ok, nmX2, fm_ix 110 (by decide +kernel) rfl, rfl⟩
theorem fl_X5_187 : fm_fld RX5 187 2 1 RX2 TX2 5 tyX2 := ⟨rfl, by decide, inF_X2, tyX2_ok, nmX2, fm_ix 111 (by decide +kernel) rfl, rfl⟩
theorem fl_X2_21 : fm_fld RX2 21 2 2 RX2 TX2 5 tyX2 := ⟨rfl, by decide, inF_X2, tyX2_ok, nmX2, fm_ix 112 (by decide +kernel) rfl, rfl⟩
theorem fl_X2_24 : fm_fld RX2 24 2 3 RX2 TX2 5 tyX2 := ⟨rfl, by decide, inF_X2, tyX2_ok, nmX2, fm_ix 113 (by decide +kernel) rfl, rfl⟩
theorem fl_X4_52 : fm_fld RX4 52 2 3 RX2 TX2 5 tyX2 := ⟨rfl, by decide, inF_X2, tyX2_ok, nmX2, fm_ix 114 (by decide +kernel) rfl, rfl⟩
theorem fl_X5_75 : fm_fld RX5 75 2 3 RX2 TX2 5 tyX2 := ⟨rfl, by decide, inF_X2, tyX2_ok, nmX2, fm_ix 115 (by decide +kernel) rfl, rfl⟩
theorem fl_X3_54 : fm_fld RX3 54 2 3 RX2 TX2 5 tyX2 := ⟨rfl, by decide, inF_X2, tyX2_ok, nmX2, fm_ix 116 (by decide +kernel) rfl, rfl⟩
theorem fl_X2_28 : fm_fld RX2 28 2 4 RX2 TX2 5 tyX2 := ⟨rfl, by decide, inF_X2, tyX2_ok, nmX2, fm_ix 117 (by decide +kernel) rfl, rfl⟩
theorem fl_X4_44 : fm_fld RX4 44 2 4 RX2 TX2 5 tyX2 := ⟨rfl, by decide, inF_X2, tyX2_ok, nmX2, fm_ix 118 (by decide +kernel) rfl, rfl⟩
theorem fl_X5_11 : fm_fld RX5 11 5 0 RX5 TX5 7 tyX5 := ⟨rfl, by decide, inF_X5, tyX5_ok, nmX5, fm_ix 130 (by decide +kernel) rfl, rfl⟩
theorem fl_X5_17 : fm_fld RX5 17 5 1 RX5 TX5 7 tyX5 := ⟨rfl, by decide, inF_X5, tyX5_ok, nmX5, fm_ix 131 (by decide +kernel) rfl, rfl⟩
theorem fl_X5_21 : fm_fld RX5 21 5 2 RX5 TX5 7 tyX5 := ⟨rfl, by decide, inF_X5, tyX5_ok, nmX5, fm_ix 132 (by decide +kernel) rfl, rfl⟩
theorem fl_X5_25 : fm_fld RX5 25 5 3 RX5 TX5 7 tyX5 := ⟨rfl, by decide, inF_X5, tyX5_ok, nmX5, fm_ix 133 (by decide +kernel) rfl, rfl⟩
theorem fl_X5_29 : fm_fld RX5 29 5 4 RX5 TX5 7 tyX5 := ⟨rfl, by decide, inF_X5, tyX5_ok, nmX5, fm_ix 134 (by decide +kernel) rfl, rfl⟩
theorem fl_X5_33 : fm_fld RX5 33 5 5 RX5 TX5 7 tyX5 := ⟨rfl, by decide, inF_X5, tyX5_ok, nmX5, fm_ix 135 (by decide +kernel) rfl, rfl⟩
theorem fl_X5_39 : fm_fld RX5 39 5 6 RX5 TX5 7 tyX5 := ⟨rfl, by decide, inF_X5, tyX5_ok, nmX5, fm_ix 136 (by decide +kernel) rfl, rfl⟩
theorem fl_X1_12 : fm_fld RX1 12 1 0 RX1 TX1 3 tyX1 := ⟨rfl, by decide, inF_X1, tyX1_ok, nmX1, fm_ix 276 (by decide +kernel) rfl, rfl⟩
theorem fl_X1_18 : fm_fld RX1 18 1 1 RX1 TX1 3 tyX1 := ⟨rfl, by decide, inF_X1, tyX1_ok, nmX1, fm_ix 277 (by decide +kernel) rfl, rfl⟩
theorem fl_X3_46 : fm_fld RX3 46 1 1 RX1 TX1 3 tyX1 := ⟨rfl, by decide, inF_X1, tyX1_ok, nmX1, fm_ix 278 (by decide +kernel) rfl, rfl⟩
theorem fl_X1_21 : fm_fld RX1 21 1 2 RX1 TX1 3 tyX1 := ⟨rfl, by decide, inF_X1, tyX1_ok, nmX1, fm_ix 279 (by decide +kernel) rfl, rfl⟩
theorem fl_X3_59 : fm_fld RX3 59 1 2 RX1 TX1 3 tyX1 := ⟨rfl, by decide, inF_X1, tyX1_ok, nmX1, fm_ix 280 (by decide +kernel) rfl, rfl⟩
theorem fl_X3_9 : fm_fld RX3 9 3 0 RX3 TX3 6 tyX3 := ⟨rfl, by decide, inF_X3, tyX3_ok, nmX3, fm_ix 288 (by decide +kernel) rfl, rfl⟩
theorem fl_X5_173 : fm_fld RX5 173 3 0 RX3 TX3 6 tyX3 := ⟨rfl, by decide, inF_X3, tyX3_ok, nmX3, fm_ix 289 (by decide +kernel) rfl, rfl⟩
theorem fl_X3_15 : fm_fld RX3 15 3 1 RX3 TX3 6 tyX3 := ⟨rfl, by decide, inF_X3, tyX3_ok, nmX3, fm_ix 290 (by decide +kernel) rfl, rfl⟩
theorem fl_X5_128 : fm_fld RX5 128 3 1 RX3 TX3 6 tyX3 := ⟨rfl, by decide, inF_X3, tyX3_ok, nmX3, fm_ix 291 (by decide +kernel) rfl, rfl⟩
theorem fl_X3_18 : fm_fld RX3 18 3 2 RX3 TX3 6 tyX3 := ⟨rfl, by decide, inF_X3, tyX3_ok, nmX3, fm_ix 292 (by decide +kernel) rfl, rfl⟩
theorem fl_X3_21 : fm_fld RX3 21 3 3 RX3 TX3 6 tyX3 := ⟨rfl, by decide, inF_X3, tyX3_ok, nmX3, fm_ix 293 (by decide +kernel) rfl, rfl⟩
theorem fl_X4_49 : fm_fld RX4 49 3 3 RX3 TX3 6 tyX3 := ⟨rfl, by decide, inF_X3, tyX3_ok, nmX3, fm_ix 294 (by decide +kernel) rfl, rfl⟩
theorem fl_X3_24 : fm_fld RX3 24 3 4 RX3 TX3 6 tyX3 := ⟨rfl, by decide, inF_X3, tyX3_ok, nmX3, fm_ix 295 (by decide +kernel) rfl, rfl⟩
theorem fl_X4_63 : fm_fld RX4 63 3 4 RX3 TX3 6 tyX3 := ⟨rfl, by decide, inF_X3, tyX3_ok, nmX3, fm_ix 296 (by decide +kernel) rfl, rfl⟩
theorem fl_X3_30 : fm_fld RX3 30 3 5 RX3 TX3 6 tyX3 := ⟨rfl, by decide, inF_X3, tyX3_ok, nmX3, fm_ix 297 (by decide +kernel) rfl, rfl⟩
theorem fl_X6_42 : fm_fld RX6 42 6 0 RX6 TX6 15 tyX6 := ⟨rfl, by decide, inF_X6, tyX6_ok, nmX6, fm_ix 609 (by decide +kernel) rfl, rfl⟩
theorem fl_X6_53 : fm_fld RX6 53 6 1 RX6 TX6 15 tyX6 := ⟨rfl, by decide, inF_X6, tyX6_ok, nmX6, fm_ix 610 (by decide +kernel) rfl, rfl⟩
theorem fl_X6_7 : fm_fld RX6 7 6 2 RX6 TX6 15 tyX6 := ⟨rfl, by decide, inF_X6, tyX6_ok, nmX6, fm_ix 611 (by decide +kernel) rfl, rfl⟩
theorem fl_X6_13 : fm_fld RX6 13 6 3 RX6 TX6 15 tyX6 := ⟨rfl, by decide, inF_X6, tyX6_ok, nmX6, fm_ix 612 (by decide +kernel) rfl, rfl⟩
theorem fl_X6_16 : fm_fld RX6 16 6 4 RX6 TX6 15 tyX6 := ⟨rfl, by decide, inF_X6, tyX6_ok, nmX6, fm_ix 613 (by decide +kernel) rfl, rfl⟩
theorem fl_X6_19 : fm_fld RX6 19 6 5 RX6 TX6 15 tyX6 := ⟨rfl, by decide, inF_X6, tyX6_ok, nmX6, fm_ix 614 (by decide +kernel) rfl, rfl⟩
theorem fl_X6_60 : fm_fld RX6 60 6 6 RX6 TX6 15 tyX6 := ⟨rfl, by decide, inF_X6, tyX6_ok, nmX6, fm_ix 615 (by decide +kernel) rfl, rfl⟩
theorem fl_X6_22 : fm_fld RX6 22 6 7 RX6 TX6 15 tyX6 := ⟨rfl, by decide, inF_X6, tyX6_ok, nmX6, fm_ix 616 (by decide +kernel) rfl, rfl⟩
theorem fl_X6_26 : fm_fld RX6 26 6 8 RX6 TX6 15 tyX6 := ⟨rfl, by decide, inF_X6, tyX6_ok, nmX6, fm_ix 617 (by decide +kernel) rfl, rfl⟩
theorem fl_X6_30 : fm_fld RX6 30 6 9 RX6 TX6 15 tyX6 := ⟨rfl, by decide, inF_X6, tyX6_ok, nmX6, fm_ix 618 (by decide +kernel) rfl, rfl⟩
theorem fl_X6_107 : fm_fld RX6 107 6 10 RX6 TX6 15 tyX6 := ⟨rfl, by decide, inF_X6, tyX6_ok, nmX6, fm_ix 619 (by decide +kernel) rfl, rfl⟩
theorem fl_X6_33 : fm_fld RX6 33 6 11 RX6 TX6 15 tyX6 := ⟨rfl, by decide, inF_X6, tyX6_ok, nmX6, fm_ix 620 (by decide +kernel) rfl, rfl⟩
theorem fl_X6_36 : fm_fld RX6 36 6 12 RX6 TX6 15 tyX6 := ⟨rfl, by decide, inF_X6, tyX6_ok, nmX6, fm_ix 621 (by decide +kernel) rfl, rfl⟩
theorem fl_X6_104 : fm_fld RX6 104 6 13 RX6 TX6 15 tyX6 := ⟨rfl, by decide, inF_X6, tyX6_ok, nmX6, fm_ix 622 (by decide +kernel) rfl, rfl⟩
theorem fl_X6_39 : fm_fld RX6 39 6 14 RX6 TX6 15 tyX6 := ⟨rfl, by decide, inF_X6, tyX6_ok, nmX6, fm_ix 623 (by decide +kernel) rfl, rfl⟩
theorem cl_L_8 : fm_cls RL 8 5 RX5 TX5 7 tyX5 [.null, .null, .int 0, .int 0, .null, .int 0, .null] := ⟨rfl, inF_X5, tyX5_ok, fm_ix 46 (by decide +kernel) rfl, fm_ix 47 (by decide +kernel) rfl, fm_ix 28 (by decide +kernel) rfl, fun j hj => by rcases (show j = 0 ∨ j = 1 ∨ j = 2 ∨ j = 3 ∨ j = 4 ∨ j = 5 ∨ j = 6 by omega) with rfl | rfl | rfl | rfl | rfl | rfl | rfl <;> rfl⟩
theorem cl_X5_9 : fm_cls RX5 9 2 RX2 TX2 5 tyX2 [.null, .null, .null, .null, .null] := ⟨rfl, inF_X2, tyX2_ok, fm_ix 54 (by decide +kernel) rfl, fm_ix 90 (by decide +kernel) rfl, fm_ix 30 (by decide +kernel) rfl, fun j hj => by rcases (show j = 0 ∨ j = 1 ∨ j = 2 ∨ j = 3 ∨ j = 4 by omega) with rfl | rfl | rfl | rfl | rfl <;> rfl⟩
theorem cl_X5_15 : fm_cls RX5 15 3 RX3 TX3 6 tyX3 [.int 0, .int 0, .int 0, .int 0, .null, .null] := ⟨rfl, inF_X3, tyX3_ok, fm_ix 56 (by decide +kernel) rfl, fm_ix 262 (by decide +kernel) rfl, fm_ix 38 (by decide +kernel) rfl, fun j hj => by rcases (show j = 0 ∨ j = 1 ∨ j = 2 ∨ j = 3 ∨ j = 4 ∨ j = 5 by omega) with rfl | rfl | rfl | rfl | rfl | rfl <;> rfl⟩
theorem cl_X5_36 : fm_cls RX5 36 4 RX4 TX4 7 tyX4 [.null, .null, .int 0, .null, .null, .int 0, .null] := ⟨rfl, inF_X4, tyX4_ok, fm_ix 58 (by decide +kernel) rfl, fm_ix 59 (by decide +kernel) rfl, fm_ix 29 (by decide +kernel) rfl, fun j hj => by rcases (show j = 0 ∨ j = 1 ∨ j = 2 ∨ j = 3 ∨ j = 4 ∨ j = 5 ∨ j = 6 by omega) with rfl | rfl | rfl | rfl | rfl | rfl | rfl <;> rfl⟩
theorem cl_X2_9 : fm_cls RX2 9 0 RX0 TX0 1 tyX0 [.null] := ⟨rfl, inF_X0, tyX0_ok, fm_ix 95 (by decide +kernel) rfl, fm_ix 96 (by decide +kernel) rfl, fm_ix 31 (by decide +kernel) rfl, fun j hj => by rcases (show j = 0 by omega) with rfl <;> rfl⟩
theorem cl_X3_28 : fm_cls RX3 28 1 RX1 TX1 3 tyX1 [.null, .null, .null] := ⟨rfl, inF_X1, tyX1_ok, fm_ix 267 (by decide +kernel) rfl, fm_ix 269 (by decide +kernel) rfl, fm_ix 39 (by decide +kernel) rfl, fun j hj => by rcases (show j = 0 ∨ j = 1 ∨ j = 2 by omega) with rfl | rfl | rfl <;> rfl⟩
theorem cl_X1_9 : fm_cls RX1 9 0 RX0 TX0 1 tyX0 [.null] := ⟨rfl, inF_X0, tyX0_ok, fm_ix 274 (by decide +kernel) rfl, fm_ix 96 (by decide +kernel) rfl, fm_ix 31 (by decide +kernel) rfl, fun j hj => by rcases (show j = 0 by omega) with rfl <;> rfl⟩
theorem cl_L_51 : fm_cls RL 51 6 RX6 TX6 15 tyX6 [.int 0, .int 0, .null, .null, .null, .null, .int 0, .null, .int 0, .null, .int 0, .null, .null, .int 0, .null] := ⟨rfl, inF_X6, tyX6_ok, fm_ix 603 (by decide +kernel) rfl, fm_ix 604 (by decide +kernel) rfl, fm_ix 32 (by decide +kernel) rfl, fun j hj => by rcases (show j = 0 ∨ j = 1 ∨ j = 2 ∨ j = 3 ∨ j = 4 ∨ j = 5 ∨ j = 6 ∨ j = 7 ∨ j = 8 ∨ j = 9 ∨ j = 10 ∨ j = 11 ∨ j = 12 ∨ j = 13 ∨ j = 14 by omega) with rfl | rfl | rfl | rfl | rfl | rfl | rfl | rfl | rfl | rfl | rfl | rfl | rfl | rfl | rfl <;> rfl⟩
theorem cw_L_50 : fm_wI RL 50 yX5_init cX5_init 2 0 := ⟨(List.forall_mem_cons.mpr ⟨fm_ix 48 (by decide +kernel) rfl, (List.forall_mem_cons.mpr ⟨fm_ix 49 (by decide +kernel) rfl, (List.forall_mem_cons.mpr ⟨fm_ix 28 (by decide +kernel) rfl, (List.forall_mem_cons.mpr ⟨fm_ix 50 (by rfl) rfl, (fun _ h => nomatch h)⟩)⟩)⟩)⟩), rfl, ⟨by decide, by decide, by decide⟩⟩
theorem cw_X5_3 : ∀ w ∈ ([.methodLink RX5 3 objectInit, .instanceMethod objectInit, .code objectInit ⟨#[0xb1]⟩ 1 none] : List Cond), w ∈ fm_tbl := (List.forall_mem_cons.mpr ⟨fm_ix 51 (by decide +kernel) rfl, (List.forall_mem_cons.mpr ⟨fm_ix 52 (by decide +kernel) rfl, (List.forall_mem_cons.mpr ⟨fm_ix 53 (by rfl) rfl, (fun _ h => nomatch h)⟩)⟩)⟩)
theorem cw_X5_38 : fm_wN RX5 38 yX4_init "LetterCounts" cX4_init 1 0 := ⟨(List.forall_mem_cons.mpr ⟨fm_ix 61 (by decide +kernel) rfl, (List.forall_mem_cons.mpr ⟨fm_ix 29 (by decide +kernel) rfl, (List.forall_mem_cons.mpr ⟨fm_ix 62 (by rfl) rfl, (fun _ h => nomatch h)⟩)⟩)⟩), by decide +kernel, rfl, ⟨by decide, by decide, by decide⟩⟩
theorem cw_X4_3 : ∀ w ∈ ([.methodLink RX4 3 objectInit, .instanceMethod objectInit, .code objectInit ⟨#[0xb1]⟩ 1 none] : List Cond), w ∈ fm_tbl := (List.forall_mem_cons.mpr ⟨fm_ix 63 (by decide +kernel) rfl, (List.forall_mem_cons.mpr ⟨fm_ix 52 (by decide +kernel) rfl, (List.forall_mem_cons.mpr ⟨fm_ix 53 (by rfl) rfl, (fun _ h => nomatch h)⟩)⟩)⟩)
theorem cw_X5_43 : fm_wN RX5 43 yX2_init "LetterCounts" cX2_init 1 0 := ⟨(List.forall_mem_cons.mpr ⟨fm_ix 92 (by decide +kernel) rfl, (List.forall_mem_cons.mpr ⟨fm_ix 30 (by decide +kernel) rfl, (List.forall_mem_cons.mpr ⟨fm_ix 93 (by rfl) rfl, (fun _ h => nomatch h)⟩)⟩)⟩), by decide +kernel, rfl, ⟨by decide, by decide, by decide⟩⟩
theorem cw_X2_3 : ∀ w ∈ ([.methodLink RX2 3 objectInit, .instanceMethod objectInit, .code objectInit ⟨#[0xb1]⟩ 1 none] : List Cond), w ∈ fm_tbl := (List.forall_mem_cons.mpr ⟨fm_ix 94 (by decide +kernel) rfl, (List.forall_mem_cons.mpr ⟨fm_ix 52 (by decide +kernel) rfl, (List.forall_mem_cons.mpr ⟨fm_ix 53 (by rfl) rfl, (fun _ h => nomatch h)⟩)⟩)⟩)
theorem cw_X2_11 : fm_wN RX2 11 yX0_init "LetterCounts" cX0_init 1 0 := ⟨(List.forall_mem_cons.mpr ⟨fm_ix 98 (by decide +kernel) rfl, (List.forall_mem_cons.mpr ⟨fm_ix 31 (by decide +kernel) rfl, (List.forall_mem_cons.mpr ⟨fm_ix 99 (by rfl) rfl, (fun _ h => nomatch h)⟩)⟩)⟩), by decide +kernel, rfl, ⟨by decide, by decide, by decide⟩⟩
theorem cw_X0_3 : ∀ w ∈ ([.methodLink RX0 3 objectInit, .instanceMethod objectInit, .code objectInit ⟨#[0xb1]⟩ 1 none] : List Cond), w ∈ fm_tbl := (List.forall_mem_cons.mpr ⟨fm_ix 100 (by decide +kernel) rfl, (List.forall_mem_cons.mpr ⟨fm_ix 52 (by decide +kernel) rfl, (List.forall_mem_cons.mpr ⟨fm_ix 53 (by rfl) rfl, (fun _ h => nomatch h)⟩)⟩)⟩)
theorem cw_L_64 : fm_wV RL 64 yX5_clear cX5_clear 1 none 0 := ⟨(List.forall_mem_cons.mpr ⟨fm_ix 152 (by decide +kernel) rfl, (List.forall_mem_cons.mpr ⟨fm_ix 153 (by decide +kernel) rfl, (List.forall_mem_cons.mpr ⟨fm_ix 154 (by decide +kernel) rfl, (List.forall_mem_cons.mpr ⟨fm_ix 28 (by decide +kernel) rfl, (List.forall_mem_cons.mpr ⟨fm_ix 155 (by rfl) rfl, (fun _ h => nomatch h)⟩)⟩)⟩)⟩)⟩), ⟨by decide, by decide, by decide⟩⟩
theorem cw_X5_65 : fm_wV RX5 65 yX5_rulesChanged cX5_rulesChanged 1 none 0 := ⟨(List.forall_mem_cons.mpr ⟨fm_ix 156 (by decide +kernel) rfl, (List.forall_mem_cons.mpr ⟨fm_ix 158 (by decide +kernel) rfl, (List.forall_mem_cons.mpr ⟨fm_ix 0 (by decide +kernel) rfl, (List.forall_mem_cons.mpr ⟨fm_ix 28 (by decide +kernel) rfl, (List.forall_mem_cons.mpr ⟨fm_ix 159 (by rfl) rfl, (fun _ h => nomatch h)⟩)⟩)⟩)⟩)⟩), ⟨by decide, by decide, by decide⟩⟩
theorem cw_L_54 : (∀ w ∈ ([.methodLink RL 54 yL_rule, .static yL_rule, .initialized yL_rule.cls, .codeWith yL_rule cL_rule 8 (some .int) [(0, 16, 19, 13), (0, 16, 23, 15)]] : List Cond), w ∈ fm_tbl) ∧ fm_wd yL_rule 7 := ⟨(List.forall_mem_cons.mpr ⟨fm_ix 160 (by decide +kernel) rfl, (List.forall_mem_cons.mpr ⟨fm_ix 161 (by decide +kernel) rfl, (List.forall_mem_cons.mpr ⟨fm_ix 27 (by decide +kernel) rfl, (List.forall_mem_cons.mpr ⟨fm_ix 162 (by rfl) rfl, (fun _ h => nomatch h)⟩)⟩)⟩)⟩), ⟨by decide, by decide, by decide⟩⟩
theorem cw_L_7 : fm_wV RL 7 yX5_rule cX5_rule 7 (some .int) 5 := ⟨(List.forall_mem_cons.mpr ⟨fm_ix 165 (by decide +kernel) rfl, (List.forall_mem_cons.mpr ⟨fm_ix 166 (by decide +kernel) rfl, (List.forall_mem_cons.mpr ⟨fm_ix 167 (by decide +kernel) rfl, (List.forall_mem_cons.mpr ⟨fm_ix 28 (by decide +kernel) rfl, (List.forall_mem_cons.mpr ⟨fm_ix 168 (by rfl) rfl, (fun _ h => nomatch h)⟩)⟩)⟩)⟩)⟩), ⟨by decide, by decide, by decide⟩⟩
theorem cw_X5_44 : fm_wS RX5 44 yX5_requireNonterminal cX5_requireNonterminal 1 none 1 := ⟨(List.forall_mem_cons.mpr ⟨fm_ix 169 (by decide +kernel) rfl, (List.forall_mem_cons.mpr ⟨fm_ix 170 (by decide +kernel) rfl, (List.forall_mem_cons.mpr ⟨fm_ix 28 (by decide +kernel) rfl, (List.forall_mem_cons.mpr ⟨fm_ix 171 (by rfl) rfl, (fun _ h => nomatch h)⟩)⟩)⟩)⟩), ⟨by decide, by decide, by decide⟩⟩
theorem cw_X5_48 : fm_wS RX5 48 yX5_requireSymbol cX5_requireSymbol 1 none 1 := ⟨(List.forall_mem_cons.mpr ⟨fm_ix 242 (by decide +kernel) rfl, (List.forall_mem_cons.mpr ⟨fm_ix 243 (by decide +kernel) rfl, (List.forall_mem_cons.mpr ⟨fm_ix 28 (by decide +kernel) rfl, (List.forall_mem_cons.mpr ⟨fm_ix 244 (by rfl) rfl, (fun _ h => nomatch h)⟩)⟩)⟩)⟩), ⟨by decide, by decide, by decide⟩⟩
theorem cw_X5_58 : fm_wI RX5 58 yX3_init cX3_init 2 0 := ⟨(List.forall_mem_cons.mpr ⟨fm_ix 263 (by decide +kernel) rfl, (List.forall_mem_cons.mpr ⟨fm_ix 264 (by decide +kernel) rfl, (List.forall_mem_cons.mpr ⟨fm_ix 38 (by decide +kernel) rfl, (List.forall_mem_cons.mpr ⟨fm_ix 265 (by rfl) rfl, (fun _ h => nomatch h)⟩)⟩)⟩)⟩), rfl, ⟨by decide, by decide, by decide⟩⟩
theorem cw_X3_3 : ∀ w ∈ ([.methodLink RX3 3 objectInit, .instanceMethod objectInit, .code objectInit ⟨#[0xb1]⟩ 1 none] : List Cond), w ∈ fm_tbl := (List.forall_mem_cons.mpr ⟨fm_ix 266 (by decide +kernel) rfl, (List.forall_mem_cons.mpr ⟨fm_ix 52 (by decide +kernel) rfl, (List.forall_mem_cons.mpr ⟨fm_ix 53 (by rfl) rfl, (fun _ h => nomatch h)⟩)⟩)⟩)
theorem cw_X3_34 : fm_wN RX3 34 yX1_init "LetterCounts" cX1_init 1 0 := ⟨(List.forall_mem_cons.mpr ⟨fm_ix 271 (by decide +kernel) rfl, (List.forall_mem_cons.mpr ⟨fm_ix 39 (by decide +kernel) rfl, (List.forall_mem_cons.mpr ⟨fm_ix 272 (by rfl) rfl, (fun _ h => nomatch h)⟩)⟩)⟩), by decide +kernel, rfl, ⟨by decide, by decide, by decide⟩⟩
theorem cw_X1_3 : ∀ w ∈ ([.methodLink RX1 3 objectInit, .instanceMethod objectInit, .code objectInit ⟨#[0xb1]⟩ 1 none] : List Cond), w ∈ fm_tbl := (List.forall_mem_cons.mpr ⟨fm_ix 273 (by decide +kernel) rfl, (List.forall_mem_cons.mpr ⟨fm_ix 52 (by decide +kernel) rfl, (List.forall_mem_cons.mpr ⟨fm_ix 53 (by rfl) rfl, (fun _ h => nomatch h)⟩)⟩)⟩)
theorem cw_X1_11 : fm_wN RX1 11 yX0_init "LetterCounts" cX0_init 1 0 := ⟨(List.forall_mem_cons.mpr ⟨fm_ix 98 (by decide +kernel) rfl, (List.forall_mem_cons.mpr ⟨fm_ix 31 (by decide +kernel) rfl, (List.forall_mem_cons.mpr ⟨fm_ix 99 (by rfl) rfl, (fun _ h => nomatch h)⟩)⟩)⟩), by decide +kernel, rfl, ⟨by decide, by decide, by decide⟩⟩
theorem cw_X5_59 : fm_wV RX5 59 yX3_begin cX3_begin 2 none 1 := ⟨(List.forall_mem_cons.mpr ⟨fm_ix 311 (by decide +kernel) rfl, (List.forall_mem_cons.mpr ⟨fm_ix 312 (by decide +kernel) rfl, (List.forall_mem_cons.mpr ⟨fm_ix 313 (by decide +kernel) rfl, (List.forall_mem_cons.mpr ⟨fm_ix 38 (by decide +kernel) rfl, (List.forall_mem_cons.mpr ⟨fm_ix 314 (by rfl) rfl, (fun _ h => nomatch h)⟩)⟩)⟩)⟩)⟩), ⟨by decide, by decide, by decide⟩⟩
theorem cw_X5_62 : fm_wV RX5 62 yX3_append cX3_append 2 none 1 := ⟨(List.forall_mem_cons.mpr ⟨fm_ix 315 (by decide +kernel) rfl, (List.forall_mem_cons.mpr ⟨fm_ix 316 (by decide +kernel) rfl, (List.forall_mem_cons.mpr ⟨fm_ix 317 (by decide +kernel) rfl, (List.forall_mem_cons.mpr ⟨fm_ix 38 (by decide +kernel) rfl, (List.forall_mem_cons.mpr ⟨fm_ix 318 (by rfl) rfl, (fun _ h => nomatch h)⟩)⟩)⟩)⟩)⟩), ⟨by decide, by decide, by decide⟩⟩
theorem cw_L_68 : (∀ w ∈ ([.methodLink RL 68 yL_height, .static yL_height, .initialized yL_height.cls, .codeWith yL_height cL_height 7 (some .int) [(0, 14, 17, 13)]] : List Cond), w ∈ fm_tbl) ∧ fm_wd yL_height 6 := ⟨(List.forall_mem_cons.mpr ⟨fm_ix 319 (by decide +kernel) rfl, (List.forall_mem_cons.mpr ⟨fm_ix 320 (by decide +kernel) rfl, (List.forall_mem_cons.mpr ⟨fm_ix 27 (by decide +kernel) rfl, (List.forall_mem_cons.mpr ⟨fm_ix 321 (by rfl) rfl, (fun _ h => nomatch h)⟩)⟩)⟩)⟩), ⟨by decide, by decide, by decide⟩⟩
theorem cw_L_17 : fm_wV RL 17 yX5_height cX5_height 7 (some .int) 4 := ⟨(List.forall_mem_cons.mpr ⟨fm_ix 322 (by decide +kernel) rfl, (List.forall_mem_cons.mpr ⟨fm_ix 323 (by decide +kernel) rfl, (List.forall_mem_cons.mpr ⟨fm_ix 324 (by decide +kernel) rfl, (List.forall_mem_cons.mpr ⟨fm_ix 28 (by decide +kernel) rfl, (List.forall_mem_cons.mpr ⟨fm_ix 325 (by rfl) rfl, (fun _ h => nomatch h)⟩)⟩)⟩)⟩)⟩), ⟨by decide, by decide, by decide⟩⟩
theorem cw_X5_68 : fm_wS RX5 68 yX5_countOf cX5_countOf 3 (some .int) 3 := ⟨(List.forall_mem_cons.mpr ⟨fm_ix 326 (by decide +kernel) rfl, (List.forall_mem_cons.mpr ⟨fm_ix 327 (by decide +kernel) rfl, (List.forall_mem_cons.mpr ⟨fm_ix 28 (by decide +kernel) rfl, (List.forall_mem_cons.mpr ⟨fm_ix 328 (by rfl) rfl, (fun _ h => nomatch h)⟩)⟩)⟩)⟩), ⟨by decide, by decide, by decide⟩⟩
theorem cw_X5_159 : fm_wS RX5 159 yX5_requireNumber cX5_requireNumber 1 none 1 := ⟨(List.forall_mem_cons.mpr ⟨fm_ix 329 (by decide +kernel) rfl, (List.forall_mem_cons.mpr ⟨fm_ix 330 (by decide +kernel) rfl, (List.forall_mem_cons.mpr ⟨fm_ix 28 (by decide +kernel) rfl, (List.forall_mem_cons.mpr ⟨fm_ix 331 (by rfl) rfl, (fun _ h => nomatch h)⟩)⟩)⟩)⟩), ⟨by decide, by decide, by decide⟩⟩
theorem cw_X5_72 : fm_wV RX5 72 yX5_workOut cX5_workOut 3 none 0 := ⟨(List.forall_mem_cons.mpr ⟨fm_ix 333 (by decide +kernel) rfl, (List.forall_mem_cons.mpr ⟨fm_ix 335 (by decide +kernel) rfl, (List.forall_mem_cons.mpr ⟨fm_ix 2 (by decide +kernel) rfl, (List.forall_mem_cons.mpr ⟨fm_ix 28 (by decide +kernel) rfl, (List.forall_mem_cons.mpr ⟨fm_ix 336 (by rfl) rfl, (fun _ h => nomatch h)⟩)⟩)⟩)⟩)⟩), ⟨by decide, by decide, by decide⟩⟩
theorem cw_X5_162 : fm_wV RX5 162 yX2_forget cX2_forget 1 none 0 := ⟨(List.forall_mem_cons.mpr ⟨fm_ix 337 (by decide +kernel) rfl, (List.forall_mem_cons.mpr ⟨fm_ix 338 (by decide +kernel) rfl, (List.forall_mem_cons.mpr ⟨fm_ix 339 (by decide +kernel) rfl, (List.forall_mem_cons.mpr ⟨fm_ix 30 (by decide +kernel) rfl, (List.forall_mem_cons.mpr ⟨fm_ix 340 (by rfl) rfl, (fun _ h => nomatch h)⟩)⟩)⟩)⟩)⟩), ⟨by decide, by decide, by decide⟩⟩
theorem cw_X2_31 : fm_wV RX2 31 yX0_empty cX0_empty 1 none 0 := ⟨(List.forall_mem_cons.mpr ⟨fm_ix 341 (by decide +kernel) rfl, (List.forall_mem_cons.mpr ⟨fm_ix 342 (by decide +kernel) rfl, (List.forall_mem_cons.mpr ⟨fm_ix 343 (by decide +kernel) rfl, (List.forall_mem_cons.mpr ⟨fm_ix 31 (by decide +kernel) rfl, (List.forall_mem_cons.mpr ⟨fm_ix 344 (by rfl) rfl, (fun _ h => nomatch h)⟩)⟩)⟩)⟩)⟩), ⟨by decide, by decide, by decide⟩⟩
theorem cw_X0_15 : fm_wS RX0 15 yJ7_fill_d0a16 cJ7_fill_d0a16 5 none 2 := ⟨(List.forall_mem_cons.mpr ⟨fm_ix 345 (by decide +kernel) rfl, (List.forall_mem_cons.mpr ⟨fm_ix 346 (by decide +kernel) rfl, (List.forall_mem_cons.mpr ⟨fm_ix 40 (by decide +kernel) rfl, (List.forall_mem_cons.mpr ⟨fm_ix 347 (by rfl) rfl, (fun _ h => nomatch h)⟩)⟩)⟩)⟩), ⟨by decide, by decide, by decide⟩⟩
theorem cw_X2_35 : fm_wS RX2 35 yJ7_fill_53178 cJ7_fill_53178 4 none 2 := ⟨(List.forall_mem_cons.mpr ⟨fm_ix 349 (by decide +kernel) rfl, (List.forall_mem_cons.mpr ⟨fm_ix 350 (by decide +kernel) rfl, (List.forall_mem_cons.mpr ⟨fm_ix 40 (by decide +kernel) rfl, (List.forall_mem_cons.mpr ⟨fm_ix 351 (by rfl) rfl, (fun _ h => nomatch h)⟩)⟩)⟩)⟩), ⟨by decide, by decide, by decide⟩⟩
theorem cw_X5_165 : fm_wV RX5 165 yX3_forget cX3_forget 2 none 0 := ⟨(List.forall_mem_cons.mpr ⟨fm_ix 352 (by decide +kernel) rfl, (List.forall_mem_cons.mpr ⟨fm_ix 353 (by decide +kernel) rfl, (List.forall_mem_cons.mpr ⟨fm_ix 354 (by decide +kernel) rfl, (List.forall_mem_cons.mpr ⟨fm_ix 38 (by decide +kernel) rfl, (List.forall_mem_cons.mpr ⟨fm_ix 355 (by rfl) rfl, (fun _ h => nomatch h)⟩)⟩)⟩)⟩)⟩), ⟨by decide, by decide, by decide⟩⟩
theorem cw_X3_35 : fm_wV RX3 35 yX1_forget cX1_forget 1 none 0 := ⟨(List.forall_mem_cons.mpr ⟨fm_ix 356 (by decide +kernel) rfl, (List.forall_mem_cons.mpr ⟨fm_ix 357 (by decide +kernel) rfl, (List.forall_mem_cons.mpr ⟨fm_ix 358 (by decide +kernel) rfl, (List.forall_mem_cons.mpr ⟨fm_ix 39 (by decide +kernel) rfl, (List.forall_mem_cons.mpr ⟨fm_ix 359 (by rfl) rfl, (fun _ h => nomatch h)⟩)⟩)⟩)⟩)⟩), ⟨by decide, by decide, by decide⟩⟩
theorem cw_X1_25 : fm_wV RX1 25 yX0_empty cX0_empty 1 none 0 := ⟨(List.forall_mem_cons.mpr ⟨fm_ix 360 (by decide +kernel) rfl, (List.forall_mem_cons.mpr ⟨fm_ix 342 (by decide +kernel) rfl, (List.forall_mem_cons.mpr ⟨fm_ix 343 (by decide +kernel) rfl, (List.forall_mem_cons.mpr ⟨fm_ix 31 (by decide +kernel) rfl, (List.forall_mem_cons.mpr ⟨fm_ix 344 (by rfl) rfl, (fun _ h => nomatch h)⟩)⟩)⟩)⟩)⟩), ⟨by decide, by decide, by decide⟩⟩
theorem cw_X1_29 : fm_wS RX1 29 yJ7_fill_53178 cJ7_fill_53178 4 none 2 := ⟨(List.forall_mem_cons.mpr ⟨fm_ix 362 (by decide +kernel) rfl, (List.forall_mem_cons.mpr ⟨fm_ix 350 (by decide +kernel) rfl, (List.forall_mem_cons.mpr ⟨fm_ix 40 (by decide +kernel) rfl, (List.forall_mem_cons.mpr ⟨fm_ix 351 (by rfl) rfl, (fun _ h => nomatch h)⟩)⟩)⟩)⟩), ⟨by decide, by decide, by decide⟩⟩
theorem cw_X5_166 : fm_wV RX5 166 yX5_runRound cX5_runRound 4 (some .boolean) 1 := ⟨(List.forall_mem_cons.mpr ⟨fm_ix 363 (by decide +kernel) rfl, (List.forall_mem_cons.mpr ⟨fm_ix 365 (by decide +kernel) rfl, (List.forall_mem_cons.mpr ⟨fm_ix 3 (by decide +kernel) rfl, (List.forall_mem_cons.mpr ⟨fm_ix 28 (by decide +kernel) rfl, (List.forall_mem_cons.mpr ⟨fm_ix 366 (by rfl) rfl, (fun _ h => nomatch h)⟩)⟩)⟩)⟩)⟩), ⟨by decide, by decide, by decide⟩⟩
theorem cw_X5_169 : fm_wV RX5 169 yX3_grow cX3_grow 4 none 2 := ⟨(List.forall_mem_cons.mpr ⟨fm_ix 367 (by decide +kernel) rfl, (List.forall_mem_cons.mpr ⟨fm_ix 368 (by decide +kernel) rfl, (List.forall_mem_cons.mpr ⟨fm_ix 369 (by decide +kernel) rfl, (List.forall_mem_cons.mpr ⟨fm_ix 38 (by decide +kernel) rfl, (List.forall_mem_cons.mpr ⟨fm_ix 370 (by rfl) rfl, (fun _ h => nomatch h)⟩)⟩)⟩)⟩)⟩), ⟨by decide, by decide, by decide⟩⟩
theorem cw_X3_38 : fm_wV RX3 38 yX1_growLetters cX1_growLetters 3 none 2 := ⟨(List.forall_mem_cons.mpr ⟨fm_ix 371 (by decide +kernel) rfl, (List.forall_mem_cons.mpr ⟨fm_ix 372 (by decide +kernel) rfl, (List.forall_mem_cons.mpr ⟨fm_ix 373 (by decide +kernel) rfl, (List.forall_mem_cons.mpr ⟨fm_ix 39 (by decide +kernel) rfl, (List.forall_mem_cons.mpr ⟨fm_ix 374 (by rfl) rfl, (fun _ h => nomatch h)⟩)⟩)⟩)⟩)⟩), ⟨by decide, by decide, by decide⟩⟩
theorem cw_X1_35 : fm_wV RX1 35 yX0_add cX0_add 2 none 1 := ⟨(List.forall_mem_cons.mpr ⟨fm_ix 375 (by decide +kernel) rfl, (List.forall_mem_cons.mpr ⟨fm_ix 376 (by decide +kernel) rfl, (List.forall_mem_cons.mpr ⟨fm_ix 377 (by decide +kernel) rfl, (List.forall_mem_cons.mpr ⟨fm_ix 31 (by decide +kernel) rfl, (List.forall_mem_cons.mpr ⟨fm_ix 378 (by rfl) rfl, (fun _ h => nomatch h)⟩)⟩)⟩)⟩)⟩), ⟨by decide, by decide, by decide⟩⟩
theorem cw_X1_39 : fm_wV RX1 39 yX1_takeNewest cX1_takeNewest 3 none 1 := ⟨(List.forall_mem_cons.mpr ⟨fm_ix 379 (by decide +kernel) rfl, (List.forall_mem_cons.mpr ⟨fm_ix 381 (by decide +kernel) rfl, (List.forall_mem_cons.mpr ⟨fm_ix 4 (by decide +kernel) rfl, (List.forall_mem_cons.mpr ⟨fm_ix 39 (by decide +kernel) rfl, (List.forall_mem_cons.mpr ⟨fm_ix 382 (by rfl) rfl, (fun _ h => nomatch h)⟩)⟩)⟩)⟩)⟩), ⟨by decide, by decide, by decide⟩⟩
theorem cw_X1_52 : fm_wV RX1 52 yX0_removeAll cX0_removeAll 3 none 1 := ⟨(List.forall_mem_cons.mpr ⟨fm_ix 383 (by decide +kernel) rfl, (List.forall_mem_cons.mpr ⟨fm_ix 384 (by decide +kernel) rfl, (List.forall_mem_cons.mpr ⟨fm_ix 385 (by decide +kernel) rfl, (List.forall_mem_cons.mpr ⟨fm_ix 31 (by decide +kernel) rfl, (List.forall_mem_cons.mpr ⟨fm_ix 386 (by rfl) rfl, (fun _ h => nomatch h)⟩)⟩)⟩)⟩)⟩), ⟨by decide, by decide, by decide⟩⟩
theorem cw_X1_56 : fm_wV RX1 56 yX0_isEmpty cX0_isEmpty 4 (some .boolean) 0 := ⟨(List.forall_mem_cons.mpr ⟨fm_ix 388 (by decide +kernel) rfl, (List.forall_mem_cons.mpr ⟨fm_ix 389 (by decide +kernel) rfl, (List.forall_mem_cons.mpr ⟨fm_ix 390 (by decide +kernel) rfl, (List.forall_mem_cons.mpr ⟨fm_ix 31 (by decide +kernel) rfl, (List.forall_mem_cons.mpr ⟨fm_ix 391 (by rfl) rfl, (fun _ h => nomatch h)⟩)⟩)⟩)⟩)⟩), ⟨by decide, by decide, by decide⟩⟩
theorem cw_X1_60 : fm_wV RX1 60 yX0_addAll cX0_addAll 3 none 1 := ⟨(List.forall_mem_cons.mpr ⟨fm_ix 392 (by decide +kernel) rfl, (List.forall_mem_cons.mpr ⟨fm_ix 393 (by decide +kernel) rfl, (List.forall_mem_cons.mpr ⟨fm_ix 394 (by decide +kernel) rfl, (List.forall_mem_cons.mpr ⟨fm_ix 31 (by decide +kernel) rfl, (List.forall_mem_cons.mpr ⟨fm_ix 395 (by rfl) rfl, (fun _ h => nomatch h)⟩)⟩)⟩)⟩)⟩), ⟨by decide, by decide, by decide⟩⟩
theorem cw_X1_63 : fm_wV RX1 63 yX0_holds cX0_holds 2 (some .boolean) 1 := ⟨(List.forall_mem_cons.mpr ⟨fm_ix 396 (by decide +kernel) rfl, (List.forall_mem_cons.mpr ⟨fm_ix 397 (by decide +kernel) rfl, (List.forall_mem_cons.mpr ⟨fm_ix 398 (by decide +kernel) rfl, (List.forall_mem_cons.mpr ⟨fm_ix 31 (by decide +kernel) rfl, (List.forall_mem_cons.mpr ⟨fm_ix 399 (by rfl) rfl, (fun _ h => nomatch h)⟩)⟩)⟩)⟩)⟩), ⟨by decide, by decide, by decide⟩⟩
theorem cw_X3_42 : fm_wV RX3 42 yX1_grow cX1_grow 4 none 3 := ⟨(List.forall_mem_cons.mpr ⟨fm_ix 400 (by decide +kernel) rfl, (List.forall_mem_cons.mpr ⟨fm_ix 401 (by decide +kernel) rfl, (List.forall_mem_cons.mpr ⟨fm_ix 402 (by decide +kernel) rfl, (List.forall_mem_cons.mpr ⟨fm_ix 39 (by decide +kernel) rfl, (List.forall_mem_cons.mpr ⟨fm_ix 403 (by rfl) rfl, (fun _ h => nomatch h)⟩)⟩)⟩)⟩)⟩), ⟨by decide, by decide, by decide⟩⟩
theorem cw_X1_45 : fm_wV RX1 45 yX0_addSums cX0_addSums 7 none 2 := ⟨(List.forall_mem_cons.mpr ⟨fm_ix 404 (by decide +kernel) rfl, (List.forall_mem_cons.mpr ⟨fm_ix 405 (by decide +kernel) rfl, (List.forall_mem_cons.mpr ⟨fm_ix 406 (by decide +kernel) rfl, (List.forall_mem_cons.mpr ⟨fm_ix 31 (by decide +kernel) rfl, (List.forall_mem_cons.mpr ⟨fm_ix 407 (by rfl) rfl, (fun _ h => nomatch h)⟩)⟩)⟩)⟩)⟩), ⟨by decide, by decide, by decide⟩⟩
theorem cw_X0_39 : fm_wV RX0 39 yX0_addMoved cX0_addMoved 7 none 3 := ⟨(List.forall_mem_cons.mpr ⟨fm_ix 408 (by decide +kernel) rfl, (List.forall_mem_cons.mpr ⟨fm_ix 410 (by decide +kernel) rfl, (List.forall_mem_cons.mpr ⟨fm_ix 5 (by decide +kernel) rfl, (List.forall_mem_cons.mpr ⟨fm_ix 31 (by decide +kernel) rfl, (List.forall_mem_cons.mpr ⟨fm_ix 411 (by rfl) rfl, (fun _ h => nomatch h)⟩)⟩)⟩)⟩)⟩), ⟨by decide, by decide, by decide⟩⟩
theorem cw_X5_176 : fm_wV RX5 176 yX3_newestCounts cX3_newestCounts 1 (some (.object "LetterCounts$CountSet")) 0 := ⟨(List.forall_mem_cons.mpr ⟨fm_ix 413 (by decide +kernel) rfl, (List.forall_mem_cons.mpr ⟨fm_ix 414 (by decide +kernel) rfl, (List.forall_mem_cons.mpr ⟨fm_ix 415 (by decide +kernel) rfl, (List.forall_mem_cons.mpr ⟨fm_ix 38 (by decide +kernel) rfl, (List.forall_mem_cons.mpr ⟨fm_ix 416 (by rfl) rfl, (fun _ h => nomatch h)⟩)⟩)⟩)⟩)⟩), ⟨by decide, by decide, by decide⟩⟩
theorem cw_X5_180 : fm_wV RX5 180 yX2_find cX2_find 5 none 3 := ⟨(List.forall_mem_cons.mpr ⟨fm_ix 417 (by decide +kernel) rfl, (List.forall_mem_cons.mpr ⟨fm_ix 418 (by decide +kernel) rfl, (List.forall_mem_cons.mpr ⟨fm_ix 419 (by decide +kernel) rfl, (List.forall_mem_cons.mpr ⟨fm_ix 30 (by decide +kernel) rfl, (List.forall_mem_cons.mpr ⟨fm_ix 420 (by rfl) rfl, (fun _ h => nomatch h)⟩)⟩)⟩)⟩)⟩), ⟨by decide, by decide, by decide⟩⟩
theorem cw_X2_41 : fm_wV RX2 41 yX0_isEmpty cX0_isEmpty 4 (some .boolean) 0 := ⟨(List.forall_mem_cons.mpr ⟨fm_ix 421 (by decide +kernel) rfl, (List.forall_mem_cons.mpr ⟨fm_ix 389 (by decide +kernel) rfl, (List.forall_mem_cons.mpr ⟨fm_ix 390 (by decide +kernel) rfl, (List.forall_mem_cons.mpr ⟨fm_ix 31 (by decide +kernel) rfl, (List.forall_mem_cons.mpr ⟨fm_ix 391 (by rfl) rfl, (fun _ h => nomatch h)⟩)⟩)⟩)⟩)⟩), ⟨by decide, by decide, by decide⟩⟩
theorem cw_X2_45 : fm_wV RX2 45 yX0_holds cX0_holds 2 (some .boolean) 1 := ⟨(List.forall_mem_cons.mpr ⟨fm_ix 422 (by decide +kernel) rfl, (List.forall_mem_cons.mpr ⟨fm_ix 397 (by decide +kernel) rfl, (List.forall_mem_cons.mpr ⟨fm_ix 398 (by decide +kernel) rfl, (List.forall_mem_cons.mpr ⟨fm_ix 31 (by decide +kernel) rfl, (List.forall_mem_cons.mpr ⟨fm_ix 399 (by rfl) rfl, (fun _ h => nomatch h)⟩)⟩)⟩)⟩)⟩), ⟨by decide, by decide, by decide⟩⟩
theorem cw_X2_49 : fm_wV RX2 49 yX0_add cX0_add 2 none 1 := ⟨(List.forall_mem_cons.mpr ⟨fm_ix 423 (by decide +kernel) rfl, (List.forall_mem_cons.mpr ⟨fm_ix 376 (by decide +kernel) rfl, (List.forall_mem_cons.mpr ⟨fm_ix 377 (by decide +kernel) rfl, (List.forall_mem_cons.mpr ⟨fm_ix 31 (by decide +kernel) rfl, (List.forall_mem_cons.mpr ⟨fm_ix 378 (by rfl) rfl, (fun _ h => nomatch h)⟩)⟩)⟩)⟩)⟩), ⟨by decide, by decide, by decide⟩⟩
theorem cw_X5_184 : fm_wV RX5 184 yX2_endRound cX2_endRound 1 none 0 := ⟨(List.forall_mem_cons.mpr ⟨fm_ix 424 (by decide +kernel) rfl, (List.forall_mem_cons.mpr ⟨fm_ix 425 (by decide +kernel) rfl, (List.forall_mem_cons.mpr ⟨fm_ix 426 (by decide +kernel) rfl, (List.forall_mem_cons.mpr ⟨fm_ix 30 (by decide +kernel) rfl, (List.forall_mem_cons.mpr ⟨fm_ix 427 (by rfl) rfl, (fun _ h => nomatch h)⟩)⟩)⟩)⟩)⟩), ⟨by decide, by decide, by decide⟩⟩
theorem cw_X2_53 : fm_wV RX2 53 yX0_become cX0_become 2 none 1 := ⟨(List.forall_mem_cons.mpr ⟨fm_ix 428 (by decide +kernel) rfl, (List.forall_mem_cons.mpr ⟨fm_ix 429 (by decide +kernel) rfl, (List.forall_mem_cons.mpr ⟨fm_ix 430 (by decide +kernel) rfl, (List.forall_mem_cons.mpr ⟨fm_ix 31 (by decide +kernel) rfl, (List.forall_mem_cons.mpr ⟨fm_ix 431 (by rfl) rfl, (fun _ h => nomatch h)⟩)⟩)⟩)⟩)⟩), ⟨by decide, by decide, by decide⟩⟩
theorem cw_X2_57 : fm_wV RX2 57 yX0_addAll cX0_addAll 3 none 1 := ⟨(List.forall_mem_cons.mpr ⟨fm_ix 435 (by decide +kernel) rfl, (List.forall_mem_cons.mpr ⟨fm_ix 393 (by decide +kernel) rfl, (List.forall_mem_cons.mpr ⟨fm_ix 394 (by decide +kernel) rfl, (List.forall_mem_cons.mpr ⟨fm_ix 31 (by decide +kernel) rfl, (List.forall_mem_cons.mpr ⟨fm_ix 395 (by rfl) rfl, (fun _ h => nomatch h)⟩)⟩)⟩)⟩)⟩), ⟨by decide, by decide, by decide⟩⟩
theorem cw_X5_190 : fm_wV RX5 190 yX0_isEmpty cX0_isEmpty 4 (some .boolean) 0 := ⟨(List.forall_mem_cons.mpr ⟨fm_ix 436 (by decide +kernel) rfl, (List.forall_mem_cons.mpr ⟨fm_ix 389 (by decide +kernel) rfl, (List.forall_mem_cons.mpr ⟨fm_ix 390 (by decide +kernel) rfl, (List.forall_mem_cons.mpr ⟨fm_ix 31 (by decide +kernel) rfl, (List.forall_mem_cons.mpr ⟨fm_ix 391 (by rfl) rfl, (fun _ h => nomatch h)⟩)⟩)⟩)⟩)⟩), ⟨by decide, by decide, by decide⟩⟩
theorem cw_L_72 : (∀ w ∈ ([.methodLink RL 72 yL_many, .static yL_many, .initialized yL_many.cls, .codeWith yL_many cL_many 4 (some .int) [(0, 9, 12, 13)]] : List Cond), w ∈ fm_tbl) ∧ fm_wd yL_many 3 := ⟨(List.forall_mem_cons.mpr ⟨fm_ix 438 (by decide +kernel) rfl, (List.forall_mem_cons.mpr ⟨fm_ix 439 (by decide +kernel) rfl, (List.forall_mem_cons.mpr ⟨fm_ix 27 (by decide +kernel) rfl, (List.forall_mem_cons.mpr ⟨fm_ix 440 (by rfl) rfl, (fun _ h => nomatch h)⟩)⟩)⟩)⟩), ⟨by decide, by decide, by decide⟩⟩
theorem cw_L_21 : fm_wV RL 21 yX5_many cX5_many 2 (some .int) 1 := ⟨(List.forall_mem_cons.mpr ⟨fm_ix 441 (by decide +kernel) rfl, (List.forall_mem_cons.mpr ⟨fm_ix 442 (by decide +kernel) rfl, (List.forall_mem_cons.mpr ⟨fm_ix 443 (by decide +kernel) rfl, (List.forall_mem_cons.mpr ⟨fm_ix 28 (by decide +kernel) rfl, (List.forall_mem_cons.mpr ⟨fm_ix 444 (by rfl) rfl, (fun _ h => nomatch h)⟩)⟩)⟩)⟩)⟩), ⟨by decide, by decide, by decide⟩⟩
theorem cw_X5_83 : fm_wV RX5 83 yX0_size cX0_size 3 (some .int) 0 := ⟨(List.forall_mem_cons.mpr ⟨fm_ix 445 (by decide +kernel) rfl, (List.forall_mem_cons.mpr ⟨fm_ix 446 (by decide +kernel) rfl, (List.forall_mem_cons.mpr ⟨fm_ix 447 (by decide +kernel) rfl, (List.forall_mem_cons.mpr ⟨fm_ix 31 (by decide +kernel) rfl, (List.forall_mem_cons.mpr ⟨fm_ix 448 (by rfl) rfl, (fun _ h => nomatch h)⟩)⟩)⟩)⟩)⟩), ⟨by decide, by decide, by decide⟩⟩
theorem cw_X0_21 : fm_wS RX0 21 yJ13_bitCount_95d88 cJ13_bitCount_95d88 2 (some .int) 1 := ⟨(List.forall_mem_cons.mpr ⟨fm_ix 449 (by decide +kernel) rfl, (List.forall_mem_cons.mpr ⟨fm_ix 450 (by decide +kernel) rfl, (List.forall_mem_cons.mpr ⟨fm_ix 42 (by decide +kernel) rfl, (List.forall_mem_cons.mpr ⟨fm_ix 451 (by rfl) rfl, (fun _ h => nomatch h)⟩)⟩)⟩)⟩), ⟨by decide, by decide, by decide⟩⟩
theorem cw_L_76 : (∀ w ∈ ([.methodLink RL 76 yL_count, .static yL_count, .initialized yL_count.cls, .codeWith yL_count cL_count 5 (some .int) [(0, 10, 13, 13), (0, 10, 17, 29)]] : List Cond), w ∈ fm_tbl) ∧ fm_wd yL_count 4 := ⟨(List.forall_mem_cons.mpr ⟨fm_ix 455 (by decide +kernel) rfl, (List.forall_mem_cons.mpr ⟨fm_ix 456 (by decide +kernel) rfl, (List.forall_mem_cons.mpr ⟨fm_ix 27 (by decide +kernel) rfl, (List.forall_mem_cons.mpr ⟨fm_ix 457 (by rfl) rfl, (fun _ h => nomatch h)⟩)⟩)⟩)⟩), ⟨by decide, by decide, by decide⟩⟩
theorem cw_L_25 : fm_wV RL 25 yX5_count cX5_count 4 (some .int) 2 := ⟨(List.forall_mem_cons.mpr ⟨fm_ix 459 (by decide +kernel) rfl, (List.forall_mem_cons.mpr ⟨fm_ix 460 (by decide +kernel) rfl, (List.forall_mem_cons.mpr ⟨fm_ix 461 (by decide +kernel) rfl, (List.forall_mem_cons.mpr ⟨fm_ix 28 (by decide +kernel) rfl, (List.forall_mem_cons.mpr ⟨fm_ix 462 (by rfl) rfl, (fun _ h => nomatch h)⟩)⟩)⟩)⟩)⟩), ⟨by decide, by decide, by decide⟩⟩
theorem cw_X5_94 : fm_wV RX5 94 yX0_at cX0_at 4 (some .int) 1 := ⟨(List.forall_mem_cons.mpr ⟨fm_ix 479 (by decide +kernel) rfl, (List.forall_mem_cons.mpr ⟨fm_ix 480 (by decide +kernel) rfl, (List.forall_mem_cons.mpr ⟨fm_ix 481 (by decide +kernel) rfl, (List.forall_mem_cons.mpr ⟨fm_ix 31 (by decide +kernel) rfl, (List.forall_mem_cons.mpr ⟨fm_ix 482 (by rfl) rfl, (fun _ h => nomatch h)⟩)⟩)⟩)⟩)⟩), ⟨by decide, by decide, by decide⟩⟩
theorem cw_X0_27 : fm_wV RX0 27 yX0_holds cX0_holds 2 (some .boolean) 1 := ⟨(List.forall_mem_cons.mpr ⟨fm_ix 483 (by decide +kernel) rfl, (List.forall_mem_cons.mpr ⟨fm_ix 397 (by decide +kernel) rfl, (List.forall_mem_cons.mpr ⟨fm_ix 398 (by decide +kernel) rfl, (List.forall_mem_cons.mpr ⟨fm_ix 31 (by decide +kernel) rfl, (List.forall_mem_cons.mpr ⟨fm_ix 399 (by rfl) rfl, (fun _ h => nomatch h)⟩)⟩)⟩)⟩)⟩), ⟨by decide, by decide, by decide⟩⟩
theorem cw_L_80 : (∀ w ∈ ([.methodLink RL 80 yL_derive, .static yL_derive, .initialized yL_derive.cls, .codeWith yL_derive cL_derive 7 (some .int) [(0, 14, 17, 13), (0, 14, 21, 34), (0, 14, 25, 36)]] : List Cond), w ∈ fm_tbl) ∧ fm_wd yL_derive 6 := ⟨(List.forall_mem_cons.mpr ⟨fm_ix 484 (by decide +kernel) rfl, (List.forall_mem_cons.mpr ⟨fm_ix 485 (by decide +kernel) rfl, (List.forall_mem_cons.mpr ⟨fm_ix 27 (by decide +kernel) rfl, (List.forall_mem_cons.mpr ⟨fm_ix 486 (by rfl) rfl, (fun _ h => nomatch h)⟩)⟩)⟩)⟩), ⟨by decide, by decide, by decide⟩⟩
theorem cw_L_31 : fm_wV RL 31 yX5_derive cX5_derive 7 (some .int) 4 := ⟨(List.forall_mem_cons.mpr ⟨fm_ix 489 (by decide +kernel) rfl, (List.forall_mem_cons.mpr ⟨fm_ix 490 (by decide +kernel) rfl, (List.forall_mem_cons.mpr ⟨fm_ix 491 (by decide +kernel) rfl, (List.forall_mem_cons.mpr ⟨fm_ix 28 (by decide +kernel) rfl, (List.forall_mem_cons.mpr ⟨fm_ix 492 (by rfl) rfl, (fun _ h => nomatch h)⟩)⟩)⟩)⟩)⟩), ⟨by decide, by decide, by decide⟩⟩
theorem cw_X5_98 : fm_wV RX5 98 yX0_holds cX0_holds 2 (some .boolean) 1 := ⟨(List.forall_mem_cons.mpr ⟨fm_ix 493 (by decide +kernel) rfl, (List.forall_mem_cons.mpr ⟨fm_ix 397 (by decide +kernel) rfl, (List.forall_mem_cons.mpr ⟨fm_ix 398 (by decide +kernel) rfl, (List.forall_mem_cons.mpr ⟨fm_ix 31 (by decide +kernel) rfl, (List.forall_mem_cons.mpr ⟨fm_ix 399 (by rfl) rfl, (fun _ h => nomatch h)⟩)⟩)⟩)⟩)⟩), ⟨by decide, by decide, by decide⟩⟩
theorem cw_X5_107 : fm_wV RX5 107 yX4_through cX4_through 9 (some .boolean) 4 := ⟨(List.forall_mem_cons.mpr ⟨fm_ix 510 (by decide +kernel) rfl, (List.forall_mem_cons.mpr ⟨fm_ix 511 (by decide +kernel) rfl, (List.forall_mem_cons.mpr ⟨fm_ix 512 (by decide +kernel) rfl, (List.forall_mem_cons.mpr ⟨fm_ix 29 (by decide +kernel) rfl, (List.forall_mem_cons.mpr ⟨fm_ix 513 (by rfl) rfl, (fun _ h => nomatch h)⟩)⟩)⟩)⟩)⟩), ⟨by decide, by decide, by decide⟩⟩
theorem cw_X4_34 : fm_wS RX4 34 yJ7_fill_53178 cJ7_fill_53178 4 none 2 := ⟨(List.forall_mem_cons.mpr ⟨fm_ix 514 (by decide +kernel) rfl, (List.forall_mem_cons.mpr ⟨fm_ix 350 (by decide +kernel) rfl, (List.forall_mem_cons.mpr ⟨fm_ix 40 (by decide +kernel) rfl, (List.forall_mem_cons.mpr ⟨fm_ix 351 (by rfl) rfl, (fun _ h => nomatch h)⟩)⟩)⟩)⟩), ⟨by decide, by decide, by decide⟩⟩
theorem cw_X4_40 : fm_wV RX4 40 yX4_openTree cX4_openTree 3 none 2 := ⟨(List.forall_mem_cons.mpr ⟨fm_ix 515 (by decide +kernel) rfl, (List.forall_mem_cons.mpr ⟨fm_ix 517 (by decide +kernel) rfl, (List.forall_mem_cons.mpr ⟨fm_ix 6 (by decide +kernel) rfl, (List.forall_mem_cons.mpr ⟨fm_ix 29 (by decide +kernel) rfl, (List.forall_mem_cons.mpr ⟨fm_ix 518 (by rfl) rfl, (fun _ h => nomatch h)⟩)⟩)⟩)⟩)⟩), ⟨by decide, by decide, by decide⟩⟩
theorem cw_X4_55 : fm_wV RX4 55 yX3_split cX3_split 9 none 4 := ⟨(List.forall_mem_cons.mpr ⟨fm_ix 519 (by decide +kernel) rfl, (List.forall_mem_cons.mpr ⟨fm_ix 520 (by decide +kernel) rfl, (List.forall_mem_cons.mpr ⟨fm_ix 521 (by decide +kernel) rfl, (List.forall_mem_cons.mpr ⟨fm_ix 38 (by decide +kernel) rfl, (List.forall_mem_cons.mpr ⟨fm_ix 522 (by rfl) rfl, (fun _ h => nomatch h)⟩)⟩)⟩)⟩)⟩), ⟨by decide, by decide, by decide⟩⟩
theorem cw_X3_50 : fm_wS RX3 50 yX3_canBegin cX3_canBegin 5 (some .boolean) 5 := ⟨(List.forall_mem_cons.mpr ⟨fm_ix 523 (by decide +kernel) rfl, (List.forall_mem_cons.mpr ⟨fm_ix 524 (by decide +kernel) rfl, (List.forall_mem_cons.mpr ⟨fm_ix 38 (by decide +kernel) rfl, (List.forall_mem_cons.mpr ⟨fm_ix 525 (by rfl) rfl, (fun _ h => nomatch h)⟩)⟩)⟩)⟩), ⟨by decide, by decide, by decide⟩⟩
theorem cw_X4_59 : fm_wV RX4 59 yX4_openBelow cX4_openBelow 3 none 1 := ⟨(List.forall_mem_cons.mpr ⟨fm_ix 526 (by decide +kernel) rfl, (List.forall_mem_cons.mpr ⟨fm_ix 528 (by decide +kernel) rfl, (List.forall_mem_cons.mpr ⟨fm_ix 7 (by decide +kernel) rfl, (List.forall_mem_cons.mpr ⟨fm_ix 29 (by decide +kernel) rfl, (List.forall_mem_cons.mpr ⟨fm_ix 529 (by rfl) rfl, (fun _ h => nomatch h)⟩)⟩)⟩)⟩)⟩), ⟨by decide, by decide, by decide⟩⟩
theorem cw_L_83 : (∀ w ∈ ([.methodLink RL 83 yL_step, .static yL_step, .initialized yL_step.cls, .codeWith yL_step cL_step 4 (some .int) [(0, 9, 12, 29)]] : List Cond), w ∈ fm_tbl) ∧ fm_wd yL_step 3 := ⟨(List.forall_mem_cons.mpr ⟨fm_ix 547 (by decide +kernel) rfl, (List.forall_mem_cons.mpr ⟨fm_ix 548 (by decide +kernel) rfl, (List.forall_mem_cons.mpr ⟨fm_ix 27 (by decide +kernel) rfl, (List.forall_mem_cons.mpr ⟨fm_ix 549 (by rfl) rfl, (fun _ h => nomatch h)⟩)⟩)⟩)⟩), ⟨by decide, by decide, by decide⟩⟩
theorem cw_L_38 : fm_wV RL 38 yX5_step cX5_step 2 (some .int) 1 := ⟨(List.forall_mem_cons.mpr ⟨fm_ix 550 (by decide +kernel) rfl, (List.forall_mem_cons.mpr ⟨fm_ix 551 (by decide +kernel) rfl, (List.forall_mem_cons.mpr ⟨fm_ix 552 (by decide +kernel) rfl, (List.forall_mem_cons.mpr ⟨fm_ix 28 (by decide +kernel) rfl, (List.forall_mem_cons.mpr ⟨fm_ix 553 (by rfl) rfl, (fun _ h => nomatch h)⟩)⟩)⟩)⟩)⟩), ⟨by decide, by decide, by decide⟩⟩
theorem cw_L_86 : (∀ w ∈ ([.methodLink RL 86 yL_use, .static yL_use, .initialized yL_use.cls, .codeWith yL_use cL_use 5 (some .int) [(0, 10, 13, 13)]] : List Cond), w ∈ fm_tbl) ∧ fm_wd yL_use 4 := ⟨(List.forall_mem_cons.mpr ⟨fm_ix 555 (by decide +kernel) rfl, (List.forall_mem_cons.mpr ⟨fm_ix 556 (by decide +kernel) rfl, (List.forall_mem_cons.mpr ⟨fm_ix 27 (by decide +kernel) rfl, (List.forall_mem_cons.mpr ⟨fm_ix 557 (by rfl) rfl, (fun _ h => nomatch h)⟩)⟩)⟩)⟩), ⟨by decide, by decide, by decide⟩⟩
theorem cw_L_41 : fm_wV RL 41 yX5_use cX5_use 4 (some .int) 2 := ⟨(List.forall_mem_cons.mpr ⟨fm_ix 558 (by decide +kernel) rfl, (List.forall_mem_cons.mpr ⟨fm_ix 559 (by decide +kernel) rfl, (List.forall_mem_cons.mpr ⟨fm_ix 560 (by decide +kernel) rfl, (List.forall_mem_cons.mpr ⟨fm_ix 28 (by decide +kernel) rfl, (List.forall_mem_cons.mpr ⟨fm_ix 561 (by rfl) rfl, (fun _ h => nomatch h)⟩)⟩)⟩)⟩)⟩), ⟨by decide, by decide, by decide⟩⟩
theorem cw_L_89 : (∀ w ∈ ([.methodLink RL 89 yL_fit, .static yL_fit, .initialized yL_fit.cls, .codeWith yL_fit cL_fit 4 (some .int) [(0, 9, 12, 13)]] : List Cond), w ∈ fm_tbl) ∧ fm_wd yL_fit 3 := ⟨(List.forall_mem_cons.mpr ⟨fm_ix 564 (by decide +kernel) rfl, (List.forall_mem_cons.mpr ⟨fm_ix 565 (by decide +kernel) rfl, (List.forall_mem_cons.mpr ⟨fm_ix 27 (by decide +kernel) rfl, (List.forall_mem_cons.mpr ⟨fm_ix 566 (by rfl) rfl, (fun _ h => nomatch h)⟩)⟩)⟩)⟩), ⟨by decide, by decide, by decide⟩⟩
theorem cw_L_44 : fm_wV RL 44 yX5_fit cX5_fit 4 (some .int) 1 := ⟨(List.forall_mem_cons.mpr ⟨fm_ix 567 (by decide +kernel) rfl, (List.forall_mem_cons.mpr ⟨fm_ix 568 (by decide +kernel) rfl, (List.forall_mem_cons.mpr ⟨fm_ix 569 (by decide +kernel) rfl, (List.forall_mem_cons.mpr ⟨fm_ix 28 (by decide +kernel) rfl, (List.forall_mem_cons.mpr ⟨fm_ix 570 (by rfl) rfl, (fun _ h => nomatch h)⟩)⟩)⟩)⟩)⟩), ⟨by decide, by decide, by decide⟩⟩
theorem cw_X5_139 : fm_wV RX5 139 yX5_timesOnTheRight cX5_timesOnTheRight 4 (some .int) 1 := ⟨(List.forall_mem_cons.mpr ⟨fm_ix 571 (by decide +kernel) rfl, (List.forall_mem_cons.mpr ⟨fm_ix 573 (by decide +kernel) rfl, (List.forall_mem_cons.mpr ⟨fm_ix 8 (by decide +kernel) rfl, (List.forall_mem_cons.mpr ⟨fm_ix 28 (by decide +kernel) rfl, (List.forall_mem_cons.mpr ⟨fm_ix 574 (by rfl) rfl, (fun _ h => nomatch h)⟩)⟩)⟩)⟩)⟩), ⟨by decide, by decide, by decide⟩⟩
theorem cw_X5_194 : fm_wV RX5 194 yX3_timesOf cX3_timesOf 4 (some .int) 1 := ⟨(List.forall_mem_cons.mpr ⟨fm_ix 575 (by decide +kernel) rfl, (List.forall_mem_cons.mpr ⟨fm_ix 576 (by decide +kernel) rfl, (List.forall_mem_cons.mpr ⟨fm_ix 577 (by decide +kernel) rfl, (List.forall_mem_cons.mpr ⟨fm_ix 38 (by decide +kernel) rfl, (List.forall_mem_cons.mpr ⟨fm_ix 578 (by rfl) rfl, (fun _ h => nomatch h)⟩)⟩)⟩)⟩)⟩), ⟨by decide, by decide, by decide⟩⟩
theorem cw_X5_142 : fm_wV RX5 142 yX5_timesOnTheLeft cX5_timesOnTheLeft 4 (some .int) 1 := ⟨(List.forall_mem_cons.mpr ⟨fm_ix 579 (by decide +kernel) rfl, (List.forall_mem_cons.mpr ⟨fm_ix 581 (by decide +kernel) rfl, (List.forall_mem_cons.mpr ⟨fm_ix 9 (by decide +kernel) rfl, (List.forall_mem_cons.mpr ⟨fm_ix 28 (by decide +kernel) rfl, (List.forall_mem_cons.mpr ⟨fm_ix 582 (by rfl) rfl, (fun _ h => nomatch h)⟩)⟩)⟩)⟩)⟩), ⟨by decide, by decide, by decide⟩⟩
theorem cw_X5_145 : fm_wV RX5 145 yX5_reachedFrom cX5_reachedFrom 5 (some .int) 1 := ⟨(List.forall_mem_cons.mpr ⟨fm_ix 583 (by decide +kernel) rfl, (List.forall_mem_cons.mpr ⟨fm_ix 585 (by decide +kernel) rfl, (List.forall_mem_cons.mpr ⟨fm_ix 10 (by decide +kernel) rfl, (List.forall_mem_cons.mpr ⟨fm_ix 28 (by decide +kernel) rfl, (List.forall_mem_cons.mpr ⟨fm_ix 586 (by rfl) rfl, (fun _ h => nomatch h)⟩)⟩)⟩)⟩)⟩), ⟨by decide, by decide, by decide⟩⟩
theorem cw_X5_197 : fm_wV RX5 197 yX3_nonterminalBits cX3_nonterminalBits 3 (some .int) 0 := ⟨(List.forall_mem_cons.mpr ⟨fm_ix 587 (by decide +kernel) rfl, (List.forall_mem_cons.mpr ⟨fm_ix 588 (by decide +kernel) rfl, (List.forall_mem_cons.mpr ⟨fm_ix 589 (by decide +kernel) rfl, (List.forall_mem_cons.mpr ⟨fm_ix 38 (by decide +kernel) rfl, (List.forall_mem_cons.mpr ⟨fm_ix 590 (by rfl) rfl, (fun _ h => nomatch h)⟩)⟩)⟩)⟩)⟩), ⟨by decide, by decide, by decide⟩⟩
theorem cw_L_92 : (∀ w ∈ ([.methodLink RL 92 yL_letters, .static yL_letters, .initialized yL_letters.cls, .codeWith yL_letters cL_letters 4 (some .int) [(0, 9, 12, 13)]] : List Cond), w ∈ fm_tbl) ∧ fm_wd yL_letters 3 := ⟨(List.forall_mem_cons.mpr ⟨fm_ix 591 (by decide +kernel) rfl, (List.forall_mem_cons.mpr ⟨fm_ix 592 (by decide +kernel) rfl, (List.forall_mem_cons.mpr ⟨fm_ix 27 (by decide +kernel) rfl, (List.forall_mem_cons.mpr ⟨fm_ix 593 (by rfl) rfl, (fun _ h => nomatch h)⟩)⟩)⟩)⟩), ⟨by decide, by decide, by decide⟩⟩
theorem cw_L_47 : fm_wV RL 47 yX5_letters cX5_letters 4 (some .int) 1 := ⟨(List.forall_mem_cons.mpr ⟨fm_ix 594 (by decide +kernel) rfl, (List.forall_mem_cons.mpr ⟨fm_ix 595 (by decide +kernel) rfl, (List.forall_mem_cons.mpr ⟨fm_ix 596 (by decide +kernel) rfl, (List.forall_mem_cons.mpr ⟨fm_ix 28 (by decide +kernel) rfl, (List.forall_mem_cons.mpr ⟨fm_ix 597 (by rfl) rfl, (fun _ h => nomatch h)⟩)⟩)⟩)⟩)⟩), ⟨by decide, by decide, by decide⟩⟩
theorem cw_X5_150 : fm_wV RX5 150 yX3_lettersOf cX3_lettersOf 2 (some .int) 1 := ⟨(List.forall_mem_cons.mpr ⟨fm_ix 599 (by decide +kernel) rfl, (List.forall_mem_cons.mpr ⟨fm_ix 600 (by decide +kernel) rfl, (List.forall_mem_cons.mpr ⟨fm_ix 601 (by decide +kernel) rfl, (List.forall_mem_cons.mpr ⟨fm_ix 38 (by decide +kernel) rfl, (List.forall_mem_cons.mpr ⟨fm_ix 602 (by rfl) rfl, (fun _ h => nomatch h)⟩)⟩)⟩)⟩)⟩), ⟨by decide, by decide, by decide⟩⟩
theorem cw_L_53 : fm_wI RL 53 yX6_init cX6_init 1 0 := ⟨(List.forall_mem_cons.mpr ⟨fm_ix 605 (by decide +kernel) rfl, (List.forall_mem_cons.mpr ⟨fm_ix 606 (by decide +kernel) rfl, (List.forall_mem_cons.mpr ⟨fm_ix 32 (by decide +kernel) rfl, (List.forall_mem_cons.mpr ⟨fm_ix 607 (by rfl) rfl, (fun _ h => nomatch h)⟩)⟩)⟩)⟩), rfl, ⟨by decide, by decide, by decide⟩⟩
theorem cw_X6_1 : ∀ w ∈ ([.methodLink RX6 1 objectInit, .instanceMethod objectInit, .code objectInit ⟨#[0xb1]⟩ 1 none] : List Cond), w ∈ fm_tbl := (List.forall_mem_cons.mpr ⟨fm_ix 608 (by decide +kernel) rfl, (List.forall_mem_cons.mpr ⟨fm_ix 52 (by decide +kernel) rfl, (List.forall_mem_cons.mpr ⟨fm_ix 53 (by rfl) rfl, (fun _ h => nomatch h)⟩)⟩)⟩)
theorem cw_L_60 : fm_wV RL 60 yX6_thrown cX6_thrown 1 (some .int) 0 := ⟨(List.forall_mem_cons.mpr ⟨fm_ix 656 (by decide +kernel) rfl, (List.forall_mem_cons.mpr ⟨fm_ix 657 (by decide +kernel) rfl, (List.forall_mem_cons.mpr ⟨fm_ix 658 (by decide +kernel) rfl, (List.forall_mem_cons.mpr ⟨fm_ix 32 (by decide +kernel) rfl, (List.forall_mem_cons.mpr ⟨fm_ix 659 (by rfl) rfl, (fun _ h => nomatch h)⟩)⟩)⟩)⟩)⟩), ⟨by decide, by decide, by decide⟩⟩
theorem cw_L_59 : fm_wV RL 59 yX6_rule cX6_rule 7 (some .int) 5 := ⟨(List.forall_mem_cons.mpr ⟨fm_ix 660 (by decide +kernel) rfl, (List.forall_mem_cons.mpr ⟨fm_ix 661 (by decide +kernel) rfl, (List.forall_mem_cons.mpr ⟨fm_ix 662 (by decide +kernel) rfl, (List.forall_mem_cons.mpr ⟨fm_ix 32 (by decide +kernel) rfl, (List.forall_mem_cons.mpr ⟨fm_ix 663 (by rfl) rfl, (fun _ h => nomatch h)⟩)⟩)⟩)⟩)⟩), ⟨by decide, by decide, by decide⟩⟩
theorem cw_X6_49 : fm_wS RX6 49 yX6_isNonterminal cX6_isNonterminal 1 (some .boolean) 1 := ⟨(List.forall_mem_cons.mpr ⟨fm_ix 664 (by decide +kernel) rfl, (List.forall_mem_cons.mpr ⟨fm_ix 665 (by decide +kernel) rfl, (List.forall_mem_cons.mpr ⟨fm_ix 32 (by decide +kernel) rfl, (List.forall_mem_cons.mpr ⟨fm_ix 666 (by rfl) rfl, (fun _ h => nomatch h)⟩)⟩)⟩)⟩), ⟨by decide, by decide, by decide⟩⟩
theorem cw_X6_45 : fm_wS RX6 45 yX6_in cX6_in 3 (some .boolean) 3 := ⟨(List.forall_mem_cons.mpr ⟨fm_ix 667 (by decide +kernel) rfl, (List.forall_mem_cons.mpr ⟨fm_ix 668 (by decide +kernel) rfl, (List.forall_mem_cons.mpr ⟨fm_ix 32 (by decide +kernel) rfl, (List.forall_mem_cons.mpr ⟨fm_ix 669 (by rfl) rfl, (fun _ h => nomatch h)⟩)⟩)⟩)⟩), ⟨by decide, by decide, by decide⟩⟩
theorem cw_X6_56 : fm_wV RX6 56 yX6_refuse cX6_refuse 4 (some .boolean) 3 := ⟨(List.forall_mem_cons.mpr ⟨fm_ix 670 (by decide +kernel) rfl, (List.forall_mem_cons.mpr ⟨fm_ix 672 (by decide +kernel) rfl, (List.forall_mem_cons.mpr ⟨fm_ix 11 (by decide +kernel) rfl, (List.forall_mem_cons.mpr ⟨fm_ix 32 (by decide +kernel) rfl, (List.forall_mem_cons.mpr ⟨fm_ix 673 (by rfl) rfl, (fun _ h => nomatch h)⟩)⟩)⟩)⟩)⟩), ⟨by decide, by decide, by decide⟩⟩
theorem cw_L_67 : fm_wV RL 67 yX6_clear cX6_clear 1 none 0 := ⟨(List.forall_mem_cons.mpr ⟨fm_ix 674 (by decide +kernel) rfl, (List.forall_mem_cons.mpr ⟨fm_ix 675 (by decide +kernel) rfl, (List.forall_mem_cons.mpr ⟨fm_ix 676 (by decide +kernel) rfl, (List.forall_mem_cons.mpr ⟨fm_ix 32 (by decide +kernel) rfl, (List.forall_mem_cons.mpr ⟨fm_ix 677 (by rfl) rfl, (fun _ h => nomatch h)⟩)⟩)⟩)⟩)⟩), ⟨by decide, by decide, by decide⟩⟩
theorem cw_L_71 : fm_wV RL 71 yX6_height cX6_height 6 (some .int) 4 := ⟨(List.forall_mem_cons.mpr ⟨fm_ix 678 (by decide +kernel) rfl, (List.forall_mem_cons.mpr ⟨fm_ix 679 (by decide +kernel) rfl, (List.forall_mem_cons.mpr ⟨fm_ix 680 (by decide +kernel) rfl, (List.forall_mem_cons.mpr ⟨fm_ix 32 (by decide +kernel) rfl, (List.forall_mem_cons.mpr ⟨fm_ix 681 (by rfl) rfl, (fun _ h => nomatch h)⟩)⟩)⟩)⟩)⟩), ⟨by decide, by decide, by decide⟩⟩
theorem cw_X6_91 : fm_wS RX6 91 yX6_isCount cX6_isCount 4 (some .boolean) 4 := ⟨(List.forall_mem_cons.mpr ⟨fm_ix 682 (by decide +kernel) rfl, (List.forall_mem_cons.mpr ⟨fm_ix 683 (by decide +kernel) rfl, (List.forall_mem_cons.mpr ⟨fm_ix 32 (by decide +kernel) rfl, (List.forall_mem_cons.mpr ⟨fm_ix 684 (by rfl) rfl, (fun _ h => nomatch h)⟩)⟩)⟩)⟩), ⟨by decide, by decide, by decide⟩⟩
theorem cw_X6_95 : fm_wV RX6 95 yX6_reckon cX6_reckon 2 none 0 := ⟨(List.forall_mem_cons.mpr ⟨fm_ix 685 (by decide +kernel) rfl, (List.forall_mem_cons.mpr ⟨fm_ix 687 (by decide +kernel) rfl, (List.forall_mem_cons.mpr ⟨fm_ix 12 (by decide +kernel) rfl, (List.forall_mem_cons.mpr ⟨fm_ix 32 (by decide +kernel) rfl, (List.forall_mem_cons.mpr ⟨fm_ix 688 (by rfl) rfl, (fun _ h => nomatch h)⟩)⟩)⟩)⟩)⟩), ⟨by decide, by decide, by decide⟩⟩
theorem cw_X6_88 : fm_wV RX6 88 yX6_climb cX6_climb 6 (some .boolean) 1 := ⟨(List.forall_mem_cons.mpr ⟨fm_ix 689 (by decide +kernel) rfl, (List.forall_mem_cons.mpr ⟨fm_ix 691 (by decide +kernel) rfl, (List.forall_mem_cons.mpr ⟨fm_ix 13 (by decide +kernel) rfl, (List.forall_mem_cons.mpr ⟨fm_ix 32 (by decide +kernel) rfl, (List.forall_mem_cons.mpr ⟨fm_ix 692 (by rfl) rfl, (fun _ h => nomatch h)⟩)⟩)⟩)⟩)⟩), ⟨by decide, by decide, by decide⟩⟩
theorem cw_X6_78 : fm_wV RX6 78 yX6_isPlain cX6_isPlain 4 (some .boolean) 1 := ⟨(List.forall_mem_cons.mpr ⟨fm_ix 693 (by decide +kernel) rfl, (List.forall_mem_cons.mpr ⟨fm_ix 695 (by decide +kernel) rfl, (List.forall_mem_cons.mpr ⟨fm_ix 14 (by decide +kernel) rfl, (List.forall_mem_cons.mpr ⟨fm_ix 32 (by decide +kernel) rfl, (List.forall_mem_cons.mpr ⟨fm_ix 696 (by rfl) rfl, (fun _ h => nomatch h)⟩)⟩)⟩)⟩)⟩), ⟨by decide, by decide, by decide⟩⟩
theorem cw_X6_81 : fm_wV RX6 81 yX6_reckonSums cX6_reckonSums 7 none 2 := ⟨(List.forall_mem_cons.mpr ⟨fm_ix 697 (by decide +kernel) rfl, (List.forall_mem_cons.mpr ⟨fm_ix 699 (by decide +kernel) rfl, (List.forall_mem_cons.mpr ⟨fm_ix 15 (by decide +kernel) rfl, (List.forall_mem_cons.mpr ⟨fm_ix 32 (by decide +kernel) rfl, (List.forall_mem_cons.mpr ⟨fm_ix 700 (by rfl) rfl, (fun _ h => nomatch h)⟩)⟩)⟩)⟩)⟩), ⟨by decide, by decide, by decide⟩⟩
theorem cw_X6_68 : fm_wV RX6 68 yX6_has cX6_has 5 (some .boolean) 3 := ⟨(List.forall_mem_cons.mpr ⟨fm_ix 701 (by decide +kernel) rfl, (List.forall_mem_cons.mpr ⟨fm_ix 703 (by decide +kernel) rfl, (List.forall_mem_cons.mpr ⟨fm_ix 16 (by decide +kernel) rfl, (List.forall_mem_cons.mpr ⟨fm_ix 32 (by decide +kernel) rfl, (List.forall_mem_cons.mpr ⟨fm_ix 704 (by rfl) rfl, (fun _ h => nomatch h)⟩)⟩)⟩)⟩)⟩), ⟨by decide, by decide, by decide⟩⟩
theorem cw_X6_71 : fm_wV RX6 71 yX6_shift cX6_shift 5 none 2 := ⟨(List.forall_mem_cons.mpr ⟨fm_ix 705 (by decide +kernel) rfl, (List.forall_mem_cons.mpr ⟨fm_ix 707 (by decide +kernel) rfl, (List.forall_mem_cons.mpr ⟨fm_ix 17 (by decide +kernel) rfl, (List.forall_mem_cons.mpr ⟨fm_ix 32 (by decide +kernel) rfl, (List.forall_mem_cons.mpr ⟨fm_ix 708 (by rfl) rfl, (fun _ h => nomatch h)⟩)⟩)⟩)⟩)⟩), ⟨by decide, by decide, by decide⟩⟩
theorem cw_X6_75 : fm_wS RX6 75 yX6_sum cX6_sum 5 (some .int) 2 := ⟨(List.forall_mem_cons.mpr ⟨fm_ix 709 (by decide +kernel) rfl, (List.forall_mem_cons.mpr ⟨fm_ix 710 (by decide +kernel) rfl, (List.forall_mem_cons.mpr ⟨fm_ix 32 (by decide +kernel) rfl, (List.forall_mem_cons.mpr ⟨fm_ix 711 (by rfl) rfl, (fun _ h => nomatch h)⟩)⟩)⟩)⟩), ⟨by decide, by decide, by decide⟩⟩
theorem cw_X6_84 : fm_wV RX6 84 yX6_own cX6_own 2 (some .int) 1 := ⟨(List.forall_mem_cons.mpr ⟨fm_ix 712 (by decide +kernel) rfl, (List.forall_mem_cons.mpr ⟨fm_ix 714 (by decide +kernel) rfl, (List.forall_mem_cons.mpr ⟨fm_ix 18 (by decide +kernel) rfl, (List.forall_mem_cons.mpr ⟨fm_ix 32 (by decide +kernel) rfl, (List.forall_mem_cons.mpr ⟨fm_ix 715 (by rfl) rfl, (fun _ h => nomatch h)⟩)⟩)⟩)⟩)⟩), ⟨by decide, by decide, by decide⟩⟩
theorem cw_X6_64 : fm_wV RX6 64 yX6_times cX6_times 5 (some .int) 2 := ⟨(List.forall_mem_cons.mpr ⟨fm_ix 716 (by decide +kernel) rfl, (List.forall_mem_cons.mpr ⟨fm_ix 718 (by decide +kernel) rfl, (List.forall_mem_cons.mpr ⟨fm_ix 19 (by decide +kernel) rfl, (List.forall_mem_cons.mpr ⟨fm_ix 32 (by decide +kernel) rfl, (List.forall_mem_cons.mpr ⟨fm_ix 719 (by rfl) rfl, (fun _ h => nomatch h)⟩)⟩)⟩)⟩)⟩), ⟨by decide, by decide, by decide⟩⟩
theorem cw_L_75 : fm_wV RL 75 yX6_many cX6_many 2 (some .int) 1 := ⟨(List.forall_mem_cons.mpr ⟨fm_ix 720 (by decide +kernel) rfl, (List.forall_mem_cons.mpr ⟨fm_ix 721 (by decide +kernel) rfl, (List.forall_mem_cons.mpr ⟨fm_ix 722 (by decide +kernel) rfl, (List.forall_mem_cons.mpr ⟨fm_ix 32 (by decide +kernel) rfl, (List.forall_mem_cons.mpr ⟨fm_ix 723 (by rfl) rfl, (fun _ h => nomatch h)⟩)⟩)⟩)⟩)⟩), ⟨by decide, by decide, by decide⟩⟩
theorem cw_X6_98 : fm_wV RX6 98 yX6_manyOf cX6_manyOf 4 (some .int) 1 := ⟨(List.forall_mem_cons.mpr ⟨fm_ix 724 (by decide +kernel) rfl, (List.forall_mem_cons.mpr ⟨fm_ix 726 (by decide +kernel) rfl, (List.forall_mem_cons.mpr ⟨fm_ix 20 (by decide +kernel) rfl, (List.forall_mem_cons.mpr ⟨fm_ix 32 (by decide +kernel) rfl, (List.forall_mem_cons.mpr ⟨fm_ix 727 (by rfl) rfl, (fun _ h => nomatch h)⟩)⟩)⟩)⟩)⟩), ⟨by decide, by decide, by decide⟩⟩
theorem cw_L_79 : fm_wV RL 79 yX6_count cX6_count 6 (some .int) 2 := ⟨(List.forall_mem_cons.mpr ⟨fm_ix 728 (by decide +kernel) rfl, (List.forall_mem_cons.mpr ⟨fm_ix 729 (by decide +kernel) rfl, (List.forall_mem_cons.mpr ⟨fm_ix 730 (by decide +kernel) rfl, (List.forall_mem_cons.mpr ⟨fm_ix 32 (by decide +kernel) rfl, (List.forall_mem_cons.mpr ⟨fm_ix 731 (by rfl) rfl, (fun _ h => nomatch h)⟩)⟩)⟩)⟩)⟩), ⟨by decide, by decide, by decide⟩⟩
theorem cw_L_82 : fm_wV RL 82 yX6_derive cX6_derive 9 (some .int) 4 := ⟨(List.forall_mem_cons.mpr ⟨fm_ix 732 (by decide +kernel) rfl, (List.forall_mem_cons.mpr ⟨fm_ix 733 (by decide +kernel) rfl, (List.forall_mem_cons.mpr ⟨fm_ix 734 (by decide +kernel) rfl, (List.forall_mem_cons.mpr ⟨fm_ix 32 (by decide +kernel) rfl, (List.forall_mem_cons.mpr ⟨fm_ix 735 (by rfl) rfl, (fun _ h => nomatch h)⟩)⟩)⟩)⟩)⟩), ⟨by decide, by decide, by decide⟩⟩
theorem cw_X6_116 : fm_wV RX6 116 yX6_write cX6_write 5 (some .boolean) 2 := ⟨(List.forall_mem_cons.mpr ⟨fm_ix 736 (by decide +kernel) rfl, (List.forall_mem_cons.mpr ⟨fm_ix 738 (by decide +kernel) rfl, (List.forall_mem_cons.mpr ⟨fm_ix 21 (by decide +kernel) rfl, (List.forall_mem_cons.mpr ⟨fm_ix 32 (by decide +kernel) rfl, (List.forall_mem_cons.mpr ⟨fm_ix 739 (by rfl) rfl, (fun _ h => nomatch h)⟩)⟩)⟩)⟩)⟩), ⟨by decide, by decide, by decide⟩⟩
theorem cw_X6_110 : fm_wV RX6 110 yX6_rootOf cX6_rootOf 6 (some .int) 2 := ⟨(List.forall_mem_cons.mpr ⟨fm_ix 740 (by decide +kernel) rfl, (List.forall_mem_cons.mpr ⟨fm_ix 742 (by decide +kernel) rfl, (List.forall_mem_cons.mpr ⟨fm_ix 22 (by decide +kernel) rfl, (List.forall_mem_cons.mpr ⟨fm_ix 32 (by decide +kernel) rfl, (List.forall_mem_cons.mpr ⟨fm_ix 743 (by rfl) rfl, (fun _ h => nomatch h)⟩)⟩)⟩)⟩)⟩), ⟨by decide, by decide, by decide⟩⟩
theorem cw_X6_101 : fm_wS RX6 101 yX6_less cX6_less 5 (some .int) 2 := ⟨(List.forall_mem_cons.mpr ⟨fm_ix 744 (by decide +kernel) rfl, (List.forall_mem_cons.mpr ⟨fm_ix 745 (by decide +kernel) rfl, (List.forall_mem_cons.mpr ⟨fm_ix 32 (by decide +kernel) rfl, (List.forall_mem_cons.mpr ⟨fm_ix 746 (by rfl) rfl, (fun _ h => nomatch h)⟩)⟩)⟩)⟩), ⟨by decide, by decide, by decide⟩⟩
theorem cw_X6_113 : fm_wV RX6 113 yX6_spread cX6_spread 9 none 2 := ⟨(List.forall_mem_cons.mpr ⟨fm_ix 747 (by decide +kernel) rfl, (List.forall_mem_cons.mpr ⟨fm_ix 749 (by decide +kernel) rfl, (List.forall_mem_cons.mpr ⟨fm_ix 23 (by decide +kernel) rfl, (List.forall_mem_cons.mpr ⟨fm_ix 32 (by decide +kernel) rfl, (List.forall_mem_cons.mpr ⟨fm_ix 750 (by rfl) rfl, (fun _ h => nomatch h)⟩)⟩)⟩)⟩)⟩), ⟨by decide, by decide, by decide⟩⟩
theorem cw_L_85 : fm_wV RL 85 yX6_step cX6_step 2 (some .int) 1 := ⟨(List.forall_mem_cons.mpr ⟨fm_ix 751 (by decide +kernel) rfl, (List.forall_mem_cons.mpr ⟨fm_ix 752 (by decide +kernel) rfl, (List.forall_mem_cons.mpr ⟨fm_ix 753 (by decide +kernel) rfl, (List.forall_mem_cons.mpr ⟨fm_ix 32 (by decide +kernel) rfl, (List.forall_mem_cons.mpr ⟨fm_ix 754 (by rfl) rfl, (fun _ h => nomatch h)⟩)⟩)⟩)⟩)⟩), ⟨by decide, by decide, by decide⟩⟩
theorem cw_L_88 : fm_wV RL 88 yX6_use cX6_use 4 (some .int) 2 := ⟨(List.forall_mem_cons.mpr ⟨fm_ix 755 (by decide +kernel) rfl, (List.forall_mem_cons.mpr ⟨fm_ix 756 (by decide +kernel) rfl, (List.forall_mem_cons.mpr ⟨fm_ix 757 (by decide +kernel) rfl, (List.forall_mem_cons.mpr ⟨fm_ix 32 (by decide +kernel) rfl, (List.forall_mem_cons.mpr ⟨fm_ix 758 (by rfl) rfl, (fun _ h => nomatch h)⟩)⟩)⟩)⟩)⟩), ⟨by decide, by decide, by decide⟩⟩
theorem cw_L_91 : fm_wV RL 91 yX6_fit cX6_fit 4 (some .int) 1 := ⟨(List.forall_mem_cons.mpr ⟨fm_ix 759 (by decide +kernel) rfl, (List.forall_mem_cons.mpr ⟨fm_ix 760 (by decide +kernel) rfl, (List.forall_mem_cons.mpr ⟨fm_ix 761 (by decide +kernel) rfl, (List.forall_mem_cons.mpr ⟨fm_ix 32 (by decide +kernel) rfl, (List.forall_mem_cons.mpr ⟨fm_ix 762 (by rfl) rfl, (fun _ h => nomatch h)⟩)⟩)⟩)⟩)⟩), ⟨by decide, by decide, by decide⟩⟩
theorem cw_X6_120 : fm_wV RX6 120 yX6_asLeft cX6_asLeft 4 (some .int) 1 := ⟨(List.forall_mem_cons.mpr ⟨fm_ix 763 (by decide +kernel) rfl, (List.forall_mem_cons.mpr ⟨fm_ix 765 (by decide +kernel) rfl, (List.forall_mem_cons.mpr ⟨fm_ix 24 (by decide +kernel) rfl, (List.forall_mem_cons.mpr ⟨fm_ix 32 (by decide +kernel) rfl, (List.forall_mem_cons.mpr ⟨fm_ix 766 (by rfl) rfl, (fun _ h => nomatch h)⟩)⟩)⟩)⟩)⟩), ⟨by decide, by decide, by decide⟩⟩
theorem cw_X6_123 : fm_wV RX6 123 yX6_stands cX6_stands 4 (some .int) 1 := ⟨(List.forall_mem_cons.mpr ⟨fm_ix 767 (by decide +kernel) rfl, (List.forall_mem_cons.mpr ⟨fm_ix 769 (by decide +kernel) rfl, (List.forall_mem_cons.mpr ⟨fm_ix 25 (by decide +kernel) rfl, (List.forall_mem_cons.mpr ⟨fm_ix 32 (by decide +kernel) rfl, (List.forall_mem_cons.mpr ⟨fm_ix 770 (by rfl) rfl, (fun _ h => nomatch h)⟩)⟩)⟩)⟩)⟩), ⟨by decide, by decide, by decide⟩⟩
theorem cw_X6_126 : fm_wV RX6 126 yX6_reached cX6_reached 7 (some .int) 1 := ⟨(List.forall_mem_cons.mpr ⟨fm_ix 771 (by decide +kernel) rfl, (List.forall_mem_cons.mpr ⟨fm_ix 773 (by decide +kernel) rfl, (List.forall_mem_cons.mpr ⟨fm_ix 26 (by decide +kernel) rfl, (List.forall_mem_cons.mpr ⟨fm_ix 32 (by decide +kernel) rfl, (List.forall_mem_cons.mpr ⟨fm_ix 774 (by rfl) rfl, (fun _ h => nomatch h)⟩)⟩)⟩)⟩)⟩), ⟨by decide, by decide, by decide⟩⟩
theorem cw_L_94 : fm_wV RL 94 yX6_letters cX6_letters 2 (some .int) 1 := ⟨(List.forall_mem_cons.mpr ⟨fm_ix 775 (by decide +kernel) rfl, (List.forall_mem_cons.mpr ⟨fm_ix 776 (by decide +kernel) rfl, (List.forall_mem_cons.mpr ⟨fm_ix 777 (by decide +kernel) rfl, (List.forall_mem_cons.mpr ⟨fm_ix 32 (by decide +kernel) rfl, (List.forall_mem_cons.mpr ⟨fm_ix 778 (by rfl) rfl, (fun _ h => nomatch h)⟩)⟩)⟩)⟩)⟩), ⟨by decide, by decide, by decide⟩⟩
end
