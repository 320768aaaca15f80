/-! THE CLAIM OUT OF ONE WALK OF THE LAW'S BODY. Your part is whole_start (and what it stands on); all else here is the same for every law, but numbers. -/
def R_law : String := "LetterCountsLaw"
def lw_P (b : Addr) (xs : List Int32) (args : Array Value) (s : State) : Prop := args = #[.ref b] ∧ s.IntsAt b xs ∧ xs.length ≤ 3072 ∧ (Jvm.Cond.and given_1 narrow_1).before args s = true
def lw_Q (_ : Array Value) (s : State) (o : Outcome) (t : State) : Prop := o = .returned (some (.int 1)) ∧ Framed s o t [] room_1.cells room_1.slots
def lw_Z (below : List Frame) (a : Array Value) (s : State) : State → Prop := fun t => ∃ o, t.status = .running ∧ Ended t below o ∧ lw_Q a s o t
/-- the law's own end, with 1 on the stack, nothing written that was there before, its room as the claim has it -/
theorem lw_ret {p : Program} {l : Launch} {e : Env} {s : State} {m : MethodId} {below : List Frame} {meth : Method} {c : Code} {b : Nat} (hx : p.tables.exec = Jvm.exec) (hb : c.code = code) (hr : meth.sig.returnType = ret) (hlocks : meth.locks = false) {pc : Nat} {H : Heap} {ls : Array Slot} (hdg : decode code pc = .ok (.ireturn, 1)) : W p l e room_1 s m #[Value.ref b] below meth c H [] room_1.cells room_1.slots (lw_Z below #[Value.ref b] s) (F0 m pc ls [.int 1]) := by
  intro T hT X
  obtain ⟨fs, hret, hrun, hended, hW, hframe⟩ := X.leave (v := some (.int 1)) (hlocks := hlocks) (fun h => by rw [hr] at h; cases h)
  have hmeth' : T.vm.method? m = some meth := X.method'
  refine ⟨T.setFrames fs, ?_, .returned (some (.int 1)), hrun, hended, rfl, ⟨_, rfl⟩, hW, hframe⟩
  jvm_step X.here [X.here.top, hx, hb, hdg, hmeth', hr, ret, narrow_b1]
  (try refine ⟨rfl, ?_⟩); (try refine ⟨rfl, ?_⟩)
  first | (intro acts; rw [hret _ acts rfl rfl rfl]) | rw [hret _ _ rfl rfl rfl]
  exact Steps.refl _
/-- what holds at the law's entry: the machine, the code, the tables' words (any of lw_tbl by 'hts w (by decide +kernel)'), the script of L ints xs at the cell b, what the Statement gives of the start (any of its parts by flat_of_before) -/
def lw_At (p : Program) (s : State) (m : MethodId) (meth : Method) (c : Code) (b L : Nat) (xs : Nat → Int32) : Prop :=
  p.tables.exec = Jvm.exec ∧ c.code = code ∧ meth.sig.returnType = ret ∧ c.maxLocals = 7 ∧ s.vm.findClass R_law = some m.cls ∧ (∀ w ∈ lw_tbl, w.before #[Value.ref b] s = true) ∧ va_X b L xs s s.heap ∧ b < s.heap.size ∧ meth.locks = false ∧ (Jvm.Cond.and given_1 narrow_1).before #[Value.ref b] s = true
theorem st_P {D : va_G} {A : Nat → Prop} {H : Heap} : fm_P D A (fun _ => none) H := by
  refine ⟨[], fun _ => fm_O 0 [], fun a => ?_, ?_, ?_, ?_⟩
  · simp
  · intro k q hk
    simp [va_pl] at hk
  · intro i j p q hp
    simp [va_pl] at hp
  · intro k q hk
    simp [va_pl] at hk
theorem st_A {args : Array Value} {s : State} {t : FieldType} (h : (Cond.arrayClass t).before args s = true) (ho : ∀ C, t ≠ .object C) : ∃ c : ClassId, ArrOfT s c t ∧ va_RA s c t := by
  obtain ⟨c, k, comp, h1, h2, h3⟩ := Cond.arrayClass_spec h
  refine ⟨c, fun N z => ⟨(fun q hq => by cases hq), k, h2, comp, h3⟩, ?_⟩
  cases t <;> first | exact h1 | exact absurd rfl (ho _)
theorem st_O {args : Array Value} {s : State} {C : String} (h : (Cond.arrayOver (.object C)).before args s = true) : ∃ c : ClassId, ArrOfT s c (.object C) ∧ va_RA s c (.object C) := by
  obtain ⟨comp, c, k, h1, -, h2, h3, h4⟩ := Cond.arrayOver_spec h
  exact ⟨c, fun N z => ⟨(fun q hq => by cases hq), k, h2, comp, h3⟩, k, comp, h2, h3, h1, h4⟩
theorem st_K {s : State} {b : Nat} (l : Launch) (hts : ∀ w ∈ lw_tbl, w.before #[Value.ref b] s = true) : ∃ (D : va_G) (cA : Nat → ClassId), fm_K (l, D, cA) s := by
  have htf : ∀ w ∈ fm_tbl, w.before #[Value.ref b] s = true := fun w h => hts w (List.mem_filter.mp h).1
  obtain ⟨c0, i0, K0⟩ := u_known (C := RX0) (T := TX0) (N := 1) (n := 1) htf inF_X0 (hts (.instantiable RX0 1) (by decide +kernel))
  obtain ⟨c1, i1, K1⟩ := u_known (C := RX1) (T := TX1) (N := 3) (n := 3) htf inF_X1 (hts (.instantiable RX1 3) (by decide +kernel))
  obtain ⟨c2, i2, K2⟩ := u_known (C := RX2) (T := TX2) (N := 5) (n := 5) htf inF_X2 (hts (.instantiable RX2 5) (by decide +kernel))
  obtain ⟨c3, i3, K3⟩ := u_known (C := RX3) (T := TX3) (N := 6) (n := 6) htf inF_X3 (hts (.instantiable RX3 6) (by decide +kernel))
  obtain ⟨c4, i4, K4⟩ := u_known (C := RX4) (T := TX4) (N := 7) (n := 7) htf inF_X4 (hts (.instantiable RX4 7) (by decide +kernel))
  obtain ⟨c5, i5, K5⟩ := u_known (C := RX5) (T := TX5) (N := 7) (n := 7) htf inF_X5 (hts (.instantiable RX5 7) (by decide +kernel))
  obtain ⟨c6, i6, K6⟩ := u_known (C := RX6) (T := TX6) (N := 15) (n := 15) htf inF_X6 (hts (.instantiable RX6 15) (by decide +kernel))
  obtain ⟨e0, A0⟩ := st_A (t := .int) (hts (.arrayClass .int) (by decide +kernel)) (fun _ h9 => by cases h9)
  obtain ⟨e1, A1⟩ := st_A (t := .long) (hts (.arrayClass .long) (by decide +kernel)) (fun _ h9 => by cases h9)
  obtain ⟨e2, A2⟩ := st_A (t := .boolean) (hts (.arrayClass .boolean) (by decide +kernel)) (fun _ h9 => by cases h9)
  obtain ⟨e3, A3⟩ := st_O (C := RX2) (hts (.arrayOver (.object RX2)) (by decide +kernel))
  obtain ⟨e4, A4⟩ := st_O (C := RX3) (hts (.arrayOver (.object RX3)) (by decide +kernel))
  obtain ⟨e5, A5⟩ := st_O (C := RX1) (hts (.arrayOver (.object RX1)) (by decide +kernel))
  refine ⟨(fun k => if k = 0 then c0 else if k = 1 then c1 else if k = 2 then c2 else if k = 3 then c3 else if k = 4 then c4 else if k = 5 then c5 else c6, fun k => if k = 0 then i0 else if k = 1 then i1 else if k = 2 then i2 else if k = 3 then i3 else if k = 4 then i4 else if k = 5 then i5 else i6), fun k => if k = 0 then e0 else if k = 1 then e1 else if k = 2 then e2 else if k = 3 then e3 else if k = 4 then e4 else e5, ⟨?_, ?_⟩, ?_, ?_⟩
  · intro k q hq
    match k, hq with
    | 0, hq => cases hq; exact K0
    | 1, hq => cases hq; exact K1
    | 2, hq => cases hq; exact K2
    | 3, hq => cases hq; exact K3
    | 4, hq => cases hq; exact K4
    | 5, hq => cases hq; exact K5
    | 6, hq => cases hq; exact K6
    | k + 7, hq => exact absurd hq (by simp [vwCl])
  · intro k q hq
    match k, hq with
    | 0, hq => cases hq; exact A0
    | 1, hq => cases hq; exact A1
    | 2, hq => cases hq; exact A2
    | 3, hq => cases hq; exact A3
    | 4, hq => cases hq; exact A4
    | 5, hq => cases hq; exact A5
    | k + 6, hq => exact absurd hq (by simp [fm_tys])
  · show ∀ q ∈ ([(RX5, 38, yX4_init, "LetterCounts"), (RX5, 43, yX2_init, "LetterCounts"), (RX2, 11, yX0_init, "LetterCounts"), (RX3, 34, yX1_init, "LetterCounts"), (RX1, 11, yX0_init, "LetterCounts")] : List (String × Nat × MethodName × String)), va_Nw (.methodLinkNest q.1 q.2.1 q.2.2.1 q.2.2.2) s
    exact List.forall_mem_cons.mpr ⟨va_Nw.of rfl (hts (.methodLinkNest RX5 38 yX4_init "LetterCounts") (by decide +kernel)), List.forall_mem_cons.mpr ⟨va_Nw.of rfl (hts (.methodLinkNest RX5 43 yX2_init "LetterCounts") (by decide +kernel)), List.forall_mem_cons.mpr ⟨va_Nw.of rfl (hts (.methodLinkNest RX2 11 yX0_init "LetterCounts") (by decide +kernel)), List.forall_mem_cons.mpr ⟨va_Nw.of rfl (hts (.methodLinkNest RX3 34 yX1_init "LetterCounts") (by decide +kernel)), List.forall_mem_cons.mpr ⟨va_Nw.of rfl (hts (.methodLinkNest RX1 11 yX0_init "LetterCounts") (by decide +kernel)), fun _ h => nomatch h⟩⟩⟩⟩⟩
  · show ∀ C ∈ ([RX2, RX3, RX1] : List String), va_AO C s
    exact List.forall_mem_cons.mpr ⟨va_AO.of (hts (.arrayOver (.object RX2)) (by decide +kernel)), List.forall_mem_cons.mpr ⟨va_AO.of (hts (.arrayOver (.object RX3)) (by decide +kernel)), List.forall_mem_cons.mpr ⟨va_AO.of (hts (.arrayOver (.object RX1)) (by decide +kernel)), fun _ h => nomatch h⟩⟩⟩
theorem st_Z {s : State} {b : Nat} (hts : ∀ w ∈ lw_tbl, w.before #[Value.ref b] s = true) (hgv : (Jvm.Cond.and given_1 narrow_1).before #[Value.ref b] s = true) : fm_Z (fun q : Nat => s.heap.size ≤ q) s s.heap := by
  have hs := flat_of_before _ hgv
  show ∀ q ∈ ([("java/lang/Throwable", "UNASSIGNED_STACK", "[Ljava/lang/StackTraceElement;"), ("java/lang/Throwable", "SUPPRESSED_SENTINEL", "Ljava/util/List;")] : List (String × String × String)), vx_Zq q.1 q.2.1 q.2.2 (fun q : Nat => s.heap.size ≤ q) s s.heap
  exact List.forall_mem_cons.mpr ⟨vx_Zqof (hts (.laysStatic "java/lang/Throwable" "UNASSIGNED_STACK" "[Ljava/lang/StackTraceElement;") (by decide +kernel)) (hts (.initialized "java/lang/Throwable") (by decide +kernel)) (hs (.isRef (.static "java/lang/Throwable" "UNASSIGNED_STACK" "[Ljava/lang/StackTraceElement;")) (by decide +kernel)) (fun a h9 => Nat.not_le.mpr h9), List.forall_mem_cons.mpr ⟨vx_Zqof (hts (.laysStatic "java/lang/Throwable" "SUPPRESSED_SENTINEL" "Ljava/util/List;") (by decide +kernel)) (hts (.initialized "java/lang/Throwable") (by decide +kernel)) (hs (.isRef (.static "java/lang/Throwable" "SUPPRESSED_SENTINEL" "Ljava/util/List;")) (by decide +kernel)) (fun a h9 => Nat.not_le.mpr h9), fun _ h => nomatch h⟩⟩
theorem st_R {s : State} {args : Array Value} {own tx : String} {k : Nat} (h : (Cond.stringRef own k tx).before args s = true) : ∃ sa, vk_R own k tx sa s := by
  cases hc : s.vm.findClass own with
  | none => simp [Cond.before, Cond.holds, Cond.value, hc] at h
  | some cur =>
    obtain ⟨_, _, _, a, _, _, _, _, _, hev⟩ := Cond.stringRef_spec hc h
    exact ⟨a, vk_R.of h hev⟩
theorem st_S {s : State} {b : Nat} (hts : ∀ w ∈ lw_tbl, w.before #[Value.ref b] s = true) (hgv : (Jvm.Cond.and given_1 narrow_1).before #[Value.ref b] s = true) : fm_S s := by
  have hs := flat_of_before _ hgv
  refine ⟨?_, fun w hw a => fm_tk_moved (s := s) (U := s) (fm_tv_k w hw) (Vm.Alike.refl s.vm) (?_ : w.before #[Value.ref b] s = true)⟩
  · show ∀ q ∈ ([(53, "there are ten rules"), (91, "no such count"), (104, "no tree has this count"), (113, "the tree is too large"), (130, "no such step"), (134, "no such rule"), (137, "uses are 0 to 50"), (148, "no such letter"), (153, "no such nonterminal"), (155, "no such symbol"), (157, "numbers of letters are 0 to 7")] : List (Nat × String)), ∃ sa, vk_R RX5 q.1 q.2 sa s
    exact List.forall_mem_cons.mpr ⟨st_R (hts (.stringRef RX5 53 "there are ten rules") (by decide +kernel)), List.forall_mem_cons.mpr ⟨st_R (hts (.stringRef RX5 91 "no such count") (by decide +kernel)), List.forall_mem_cons.mpr ⟨st_R (hts (.stringRef RX5 104 "no tree has this count") (by decide +kernel)), List.forall_mem_cons.mpr ⟨st_R (hts (.stringRef RX5 113 "the tree is too large") (by decide +kernel)), List.forall_mem_cons.mpr ⟨st_R (hts (.stringRef RX5 130 "no such step") (by decide +kernel)), List.forall_mem_cons.mpr ⟨st_R (hts (.stringRef RX5 134 "no such rule") (by decide +kernel)), List.forall_mem_cons.mpr ⟨st_R (hts (.stringRef RX5 137 "uses are 0 to 50") (by decide +kernel)), List.forall_mem_cons.mpr ⟨st_R (hts (.stringRef RX5 148 "no such letter") (by decide +kernel)), List.forall_mem_cons.mpr ⟨st_R (hts (.stringRef RX5 153 "no such nonterminal") (by decide +kernel)), List.forall_mem_cons.mpr ⟨st_R (hts (.stringRef RX5 155 "no such symbol") (by decide +kernel)), List.forall_mem_cons.mpr ⟨st_R (hts (.stringRef RX5 157 "numbers of letters are 0 to 7") (by decide +kernel)), fun _ h => nomatch h⟩⟩⟩⟩⟩⟩⟩⟩⟩⟩⟩
  · revert w hw
    show ∀ w ∈ ([.declares ⟨"java/lang/RuntimeException", "<init>", "(Ljava/lang/String;)V"⟩, .declares ⟨"java/lang/Exception", "<init>", "(Ljava/lang/String;)V"⟩, .declares ⟨"java/lang/Throwable", "<init>", "(Ljava/lang/String;)V"⟩, .castable eA eA, .castable eS eS, .castable eB eB, .castable eU eU, .castable eN eN, .not (.castable eS eA), .not (.castable eB eA), .not (.castable eN eA), .not (.castable eU eA), .not (.castable eU eN)] : List Cond), w.before #[Value.ref b] s = true
    exact List.forall_mem_cons.mpr ⟨hts (.declares ⟨"java/lang/RuntimeException", "<init>", "(Ljava/lang/String;)V"⟩) (by decide +kernel), List.forall_mem_cons.mpr ⟨hts (.declares ⟨"java/lang/Exception", "<init>", "(Ljava/lang/String;)V"⟩) (by decide +kernel), List.forall_mem_cons.mpr ⟨hts (.declares ⟨"java/lang/Throwable", "<init>", "(Ljava/lang/String;)V"⟩) (by decide +kernel), List.forall_mem_cons.mpr ⟨hts (.castable eA eA) (by decide +kernel), List.forall_mem_cons.mpr ⟨hts (.castable eS eS) (by decide +kernel), List.forall_mem_cons.mpr ⟨hts (.castable eB eB) (by decide +kernel), List.forall_mem_cons.mpr ⟨hts (.castable eU eU) (by decide +kernel), List.forall_mem_cons.mpr ⟨hts (.castable eN eN) (by decide +kernel), List.forall_mem_cons.mpr ⟨hs (.not (.castable eS eA)) (by decide +kernel), List.forall_mem_cons.mpr ⟨hs (.not (.castable eB eA)) (by decide +kernel), List.forall_mem_cons.mpr ⟨hs (.not (.castable eN eA)) (by decide +kernel), List.forall_mem_cons.mpr ⟨hs (.not (.castable eU eA)) (by decide +kernel), List.forall_mem_cons.mpr ⟨hs (.not (.castable eU eN)) (by decide +kernel), fun _ h => nomatch h⟩⟩⟩⟩⟩⟩⟩⟩⟩⟩⟩⟩⟩
set_option maxHeartbeats 4000000 in
set_option maxRecDepth 100000 in
theorem whole_start {p : Program} {e : Env} {s : State} {m : MethodId} {below : List Frame} {meth : Method} {c : Code} (l : Launch) (hl9 : l.stackTraces = false) {b L : Nat} {xs : Nat → Int32} (hL : L ≤ 3072) (C0 : lw_At p s m meth c b L xs) : W p l e room_1 s m #[Value.ref b] below meth c s.heap [] 0 0 (lw_Z below #[Value.ref b] s) (entryFrame m ([Value.ref b] : List Value).toArray 7) := by
  obtain ⟨hx, hb, hr, hml, hown, hts, hX, hbl, hlocks, hgv⟩ := C0
  obtain ⟨D, cA, hK⟩ := st_K l hts
  have hZ := st_Z hts hgv
  have hS := st_S hts hgv
  have C : GCL (l, D, cA) (p, e, room_1, s, m, #[Value.ref b], below, meth, c, lw_Z below #[Value.ref b] s, fun q : Nat => s.heap.size ≤ q) := ⟨hx, hb, hown, fun w h => hts w (List.mem_filter.mp h).1, hK, fun q h => h, hml, hlocks, ⟨rfl, rfl, rfl, rfl⟩, hZ⟩
  have K := lw_go C hS hl9 (show GP _ b L xs from ⟨hX, hbl, Nat.not_le.mpr hbl⟩) hL (fun M kc ks x mm o i h1 h2 H locs la hP hS hv => va_forget (fun q hq => hS.2.2 q hq) (W.widen h1 h2 (lw_ret hx hb hr hlocks dL_law_762)))
  rw [lg_entry_eq]
  exact K s.heap [] _ st_P va_S.rf (lv_entry [Value.ref b] (Nat.le_of_ble_eq_true rfl))
set_option maxHeartbeats 4000000 in
theorem lw_walk (l : Launch) (hl9 : l.stackTraces = false) (b : Addr) (xs : List Int32) : MetFree l x (headSpec (Jvm.Cond.code x code maxLocals ret :: tables_1) room_1) (lw_P b xs) (fun _ _ _ _ _ => True) lw_Q := by
  refine MetFree.of_bodyS (code := code) (maxLocals := maxLocals) (ret := ret) (by decide) ?_ ?_
  · intro args s m h hn
    obtain ⟨meth, c, h1, h2, h3, h4, h5, h6, -, -⟩ := Cond.code_spec hn (atoms_spec (ws := Jvm.Cond.code x code maxLocals ret :: tables_1) h _ List.mem_cons_self)
    exact ⟨meth, c, h1, h2, h3, h4, h5, h6⟩
  · intro p e s m args below meth c s₁ B hml0 hP _
    obtain ⟨rfl, hx, hbd, hgv⟩ := hP
    obtain ⟨scr, harrAt, hlist, hof, hsmall⟩ := hx
    obtain ⟨hcb, hkn, -, -⟩ := State.arrayAt?_spec harrAt
    have hown : s.vm.findClass R_law = some m.cls := findClass_of_methodNamed B.named
    have hts0 : ∀ c ∈ (Jvm.Cond.code x code maxLocals ret :: tables_1), c.before #[Value.ref b] s = true := atoms_spec (ws := Jvm.Cond.code x code maxLocals ret :: tables_1) B.pre
    have hts : ∀ w ∈ lw_tbl, w.before #[Value.ref b] s = true := k2_hts_sels lw_privs (fun w hw => hts0 w (List.mem_cons_of_mem _ hw)) lw_privs_ok
    have hml : c.maxLocals = 7 := B.maxLocals_eq (hts0 _ List.mem_cons_self)
    have X₀ : Stand p l e room_1 s m #[Value.ref b] below meth c s₁ [] 0 0 := Stand.of_body B
    have hh0 : s₁.heap = s.heap := by rw [B.state]; rfl
    have hsz : scr.slots.size = xs.length := by rw [← Array.length_toList, hlist, List.length_map]
    have hval : ∀ j : Nat, j < xs.length → scr.slots[j]? = some (.int (xs.getD j 0)) := fun j hj => by
      rw [← Array.getElem?_toList, hlist]
      simp [hj]
    have hbl : b < s.heap.size := (Array.getElem?_eq_some_iff.mp hcb).1
    have hX : va_X b xs.length (fun j => xs.getD j 0) s s.heap := ⟨scr, hcb, hof, hkn, hsz, hval⟩
    have K : W p l e room_1 s m #[Value.ref b] below meth c s₁.heap [] 0 0 (lw_Z below #[Value.ref b] s) (entryFrame m ([Value.ref b] : List Value).toArray 7) := by
      rw [hh0]
      exact whole_start l hl9 hbd ⟨B.exec, B.bytes, B.returns, hml, hown, hts, hX, hbl, B.notSynchronized, hgv⟩
    obtain ⟨t, a1, o, b1, b2, b3⟩ := K s₁ rfl X₀
    exact ⟨t, o, a1, b1, b2, b3⟩
theorem lw_pre_spec {args : Array Value} {s : State} (h : (Jvm.Cond.and given_1 narrow_1).before args s = true) (hr : rest_1_c.before args s = true) : ∃ (b : Addr) (xs : List Int32), lw_P b xs args s := by
  have hs := flat_of_before _ h
  have hq := flat_of_before _ hr
  have hc : (Cond.count 1).before args s = true := hs _ (by decide +kernel)
  have harr : (Cond.arrayOf (.arg 0) .int).before args s = true := hs _ (by decide +kernel)
  have hle : (Cond.le (.length (.arg 0)) (.int 3072)).before args s = true := hs _ (by decide +kernel)
  have hlen : (Cond.isInt (.length (.arg 0))).before args s = true := hq _ (by decide +kernel)
  have hall : (Cond.all (.arg 0) (.isInt (.elem (.arg 0) (.index 0)))).before args s = true := hq _ (by decide +kernel)
  obtain ⟨b, xs, hb, hx⟩ := State.ints_of_pre rfl harr hlen hall
  have hsm : xs.length < 2 ^ 31 := hx.choose_spec.2.2.2
  have hev : (Term.length (.arg 0)).eval args s none [] s = some (.int xs.length.toInt32) := hx.length_eval hb
  have hv := Cond.le_ints hev (show (Term.int 3072).eval args s none [] s = some (.int 3072) from rfl)
  have hd : xs.length.toInt32 ≤ 3072 := by
    simpa [Cond.before, Cond.holds, hv] using hle
  have hN : xs.length ≤ 3072 := (Int32.ofNat_le_ofNat hsm (by decide)).mp (show Int32.ofNat xs.length ≤ Int32.ofNat 3072 from hd)
  exact ⟨b, xs, Cond.one_arg hc (show args[0]? = some (.ref b) from hb), hx, hN, h⟩
theorem lw_comes (l : Launch) (hl9 : l.stackTraces = false) : Comes l x (Jvm.Cond.code x code maxLocals ret :: tables_1) room_1 (fun tb e args s => Calls_1 tb e args s ∧ rest_1 tb e args s ∧ Pre_1 tb e args s)
    (fun _ _ args s o t => lw_Q args s o t) := by
  intro p e ha hc hk s m args below hf hfit hheap happ hpre
  obtain ⟨b, xs, hP⟩ := lw_pre_spec hpre.2.2 hpre.2.1
  obtain ⟨k, o, h1, h2, h3, hQ⟩ := lw_walk l hl9 b xs p e ha hc hk s m args below hf ((Spec.applies_iff_loose hf).mp happ).1 hP trivial
  exact ⟨k, o, h1, h2, h3, hQ⟩
theorem lw_frame {s t : State} {o : Outcome} {args : Array Value} (h : Framed s o t [] room_1.cells room_1.slots) :
    Framed s o t (fieldLocs frame_1_writes args s ++ arrayLocs frame_1_arrays args s ++ staticLocs frame_1_statics s) room_1.cells room_1.slots := h
theorem lw_limb (L : Cond) (hL : ∀ (args : Array Value) (s t : State), L.after args s (.returned (some (.int 1))) t = true) :
    ArmFor flags0 classFile x code maxLocals ret World_1 tables_1 room_1 Calls_1 rest_1 Pre_1
      (fun tb e a s o t => postC L tb e a s o t ∧ Framed s o t (fieldLocs frame_1_writes a s ++ arrayLocs frame_1_arrays a s ++ staticLocs frame_1_statics s) room_1.cells room_1.slots) := by
  intro l hfl _ _ p e ha hc hk s m args below hf hfit hheap happ hpre
  obtain ⟨k, o, h1, h2, h3, rfl, hF⟩ := lw_comes l (by show (!l.flags.contains Jvm.noTraceFlag) = false; rw [hfl]; decide +kernel) p e ha hc hk s m args below hf hfit hheap happ hpre
  exact ⟨k, _, h1, h2, h3, hL args s _, lw_frame hF⟩
theorem i_vc : Claimed_1_1 ∧ Claimed_1_2 := ⟨lw_limb limb_1_1 (fun args s t => by simp [limb_1_1, Cond.after, Cond.holds, Cond.value]), lw_limb limb_1_2 (fun args s t => Cond.after_iff.mpr (by
  first | (rw [show limb_1_2 = Cond.eq .result (.int 1) from rfl, Cond.eq_ints (x := 1) (y := 1) rfl rfl]; simp; done) | (simp [limb_1_2, Cond.value, Term.eval]; done)))⟩
