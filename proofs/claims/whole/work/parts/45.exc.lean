/-! THROWING: contracts of calls that throw -/
def eA : String := "java/lang/IllegalArgumentException"
def eS : String := "java/lang/IllegalStateException"
def eB : String := "java/lang/IndexOutOfBoundsException"
def eU : String := "java/lang/UnsupportedOperationException"
def eN : String := "java/util/NoSuchElementException"
def fm_strs : List (Nat × String) := [(53, "there are ten rules"), (91, "no such count"), (104, "no tree has this count"), (113, "the tree is too large"), (130, "no such step"), (134, "no such rule"), (137, "uses are 0 to 50"), (148, "no such letter"), (153, "no such nonterminal"), (155, "no such symbol"), (157, "numbers of letters are 0 to 7")]
def fm_names : List String := ["java/lang/RuntimeException", "java/lang/Exception"]
/-- words on the tables that a call doesn't change -/
def fm_tv : List Cond := [.declares ⟨"java/lang/RuntimeException", "<init>", "(Ljava/lang/String;)V"⟩, .declares ⟨"java/lang/Exception", "<init>", "(Ljava/lang/String;)V"⟩, .declares ⟨"java/lang/Throwable", "<init>", "(Ljava/lang/String;)V"⟩, .castable eA eA, .castable eS eS, .castable eB eB, .castable eU eU, .castable eN eN, .not (.castable eS eA), .not (.castable eB eA), .not (.castable eN eA), .not (.castable eU eA), .not (.castable eU eN)]
def fm_tk (w : Cond) : Prop := (∃ x, w = .declares x) ∨ (∃ a b, w = .castable a b) ∨ ∃ a b, w = .not (.castable a b)
theorem fm_tv_k : ∀ w ∈ fm_tv, fm_tk w := by
  intro w hw
  unfold fm_tv at hw
  simp only [List.mem_cons, List.not_mem_nil, or_false] at hw
  rcases hw with h | h | h | h | h | h | h | h | h | h | h | h | h
  · exact Or.inl ⟨_, h⟩
  · exact Or.inl ⟨_, h⟩
  · exact Or.inl ⟨_, h⟩
  · exact Or.inr (Or.inl ⟨_, _, h⟩)
  · exact Or.inr (Or.inl ⟨_, _, h⟩)
  · exact Or.inr (Or.inl ⟨_, _, h⟩)
  · exact Or.inr (Or.inl ⟨_, _, h⟩)
  · exact Or.inr (Or.inl ⟨_, _, h⟩)
  · exact Or.inr (Or.inr ⟨_, _, h⟩)
  · exact Or.inr (Or.inr ⟨_, _, h⟩)
  · exact Or.inr (Or.inr ⟨_, _, h⟩)
  · exact Or.inr (Or.inr ⟨_, _, h⟩)
  · exact Or.inr (Or.inr ⟨_, _, h⟩)
theorem fm_tk_moved {w : Cond} (hk : fm_tk w) {s U : State} (hvm : s.vm.Alike U.vm) {a b : Array Value} (h : w.before a s = true) : w.before b U = true := by
  rcases hk with ⟨x, rfl⟩ | ⟨c, d, rfl⟩ | ⟨c, d, rfl⟩
  · have h1 := Cond.declares_setVm (args := a) hvm x
    rw [h] at h1
    have h2 : (Cond.declares x).before b U = (Cond.declares x).before a (s.setVm U.vm) := by
      simp only [Cond.before, Cond.holds, Cond.value, State.vm_setVm]
      rfl
    rw [h2]; exact h1
  · have h1 := Cond.castable_setVm (args := a) hvm c d
    rw [h] at h1
    have h2 : (Cond.castable c d).before b U = (Cond.castable c d).before a (s.setVm U.vm) := by
      simp only [Cond.before, Cond.holds, Cond.value, State.vm_setVm]
    rw [h2]; exact h1
  · simp only [Cond.before, Cond.holds, Cond.value, hvm.findClass, hvm.assignable] at h ⊢
    exact h
def fm_S (U : State) : Prop := (∀ q ∈ fm_strs, ∃ sa, vk_R RX5 q.1 q.2 sa U) ∧ ∀ w ∈ fm_tv, ∀ a : Array Value, w.before a U = true
theorem fm_S.warm {s U : State} (hW : s.WarmedH U.vm) (h : fm_S s) : fm_S U := ⟨fun q hq => (h.1 q hq).elim (fun sa hs => ⟨sa, vk_R.warm hW hs⟩), fun w hw a => fm_tk_moved (fm_tv_k w hw) hW.alike (h.2 w hw a)⟩
def fm_PreX (G : fm_G) (M : fm_M) (sz : Nat) (U : State) : Prop := fm_Pre G M sz U ∧ fm_S U
def fm_XC (G : fm_G) (A : Nat → Prop) (E : String) (post : fm_M → Prop) : String → State → State → Prop := fun E' st t => E' = E ∧ (∃ M1, post M1 ∧ fm_P G.2.1 A M1 t.heap) ∧ va_F A st t
/-- THE CONTRACT of a call that throws E -/
def fm_CtX (G : fm_G) (y : MethodName) (cy : ByteArray) (maxL : Nat) (ret : Option FieldType) (fr lo mc ms : Nat) (av : List Value) (M : fm_M) (E : String) (post : fm_M → Prop) : Prop :=
  ∀ sz : Nat, vx_Met G.1 y (Cond.code y cy maxL ret :: fm_tbl) (fm_room fr lo mc ms) (va_Pc av (fm_PreX G M sz)) (fun _ _ _ _ => False) (fm_XC G (fm_A M sz) E post) mc ms (fm_A M sz)
theorem fm_blindX {G : fm_G} {M : fm_M} {sz : Nat} {av : List Value} : FrameBlind (va_Pc av (fm_PreX G M sz)) := by
  intro a U g mk h
  obtain ⟨h0, h1, h2⟩ := h
  refine ⟨h0, (fm_blind (G := G) (M := M) (sz := sz) (av := av) a U g mk ⟨h0, h1⟩).2, ?_⟩
  exact ⟨fun q hq => (h2.1 q hq).elim (fun sa hs => ⟨sa, vk_R.same (u := U) rfl hs⟩), fun w hw b => fm_tk_moved (s := U) (U := U.calling g mk a) (fm_tv_k w hw) (Vm.Alike.refl U.vm) (h2.2 w hw b)⟩
/-- what a body that throws has besides -/
def GX (G : fm_G) (X : fm_X) (mc ms : Nat) (E : String) (post : fm_M → Prop) : Prop := match X with
  | (_, _, _, s, _, args, below, _, c, Q, A) => fm_S s ∧ (∀ x ∈ c.exceptionTable.toList, False) ∧ Q = vx_MQ below (fun _ _ _ _ => False) (fm_XC G A E post) args s mc ms A
theorem fm_headX {G : fm_G} {y : MethodName} {cy : ByteArray} {maxL fr lo mc ms : Nat} {ret : Option FieldType} {av : List Value} {M : fm_M} {E : String} {post : fm_M → Prop} {ls0 : List (Nat × Value)} (hy : plainName y.cls = true) (hlen : (lg_sl av).length ≤ maxL) (hls : lv_args 0 av = ls0)
    (body : ∀ X : fm_X, GC G X y.cls cy maxL fr lo mc ms → GX G X mc ms E post → GW G X maxL M 0 0 0 ls0 []) : fm_CtX G y cy maxL ret fr lo mc ms av M E post := by
  intro sz
  refine vx_ofW (cc := cy) (maxL := maxL) (ret := ret) hy rfl ?_
  intro p e s m args below meth c s₁ B hml htab hv
  obtain ⟨rfl, ⟨hsz, hP, hK, hZ⟩, hs⟩ := hv
  have hts0 := atoms_spec (ws := Cond.code y cy maxL ret :: fm_tbl) B.pre
  have hA : ∀ q : Nat, s.heap.size ≤ q → fm_A M sz q := fun q h => Or.inr (by rw [← hsz]; exact h)
  have b0 := body (p, e, (headSpec (Cond.code y cy maxL ret :: fm_tbl) (fm_room fr lo mc ms)).room, s, m, av.toArray, below, meth, c, vx_MQ below (fun _ _ _ _ => False) (fm_XC G (fm_A M sz) E post) av.toArray s mc ms (fm_A M sz), fm_A M sz)
    ⟨B.exec, B.bytes, findClass_of_methodNamed B.named, fun w hw => hts0 w (List.mem_cons_of_mem _ hw), hK, hA, hml, B.notSynchronized, ⟨rfl, rfl, rfl, rfl⟩, hZ⟩ ⟨hs, htab, rfl⟩
  rw [lg_entry_eq]
  exact b0 s.heap [] _ hP va_S.rf (by rw [← hls]; exact lv_entry av hlen)
theorem fm_P.kept {D : va_G} {A : Nat → Prop} {M : fm_M} {H H1 : Heap} (h : fm_P D A M H) (hk : ∀ q : Nat, q < H.size → H1[q]? = H[q]?) : fm_P D A M H1 := by
  obtain ⟨L, f, h1, h2, h3⟩ := h
  exact ⟨L, f, h1, h2.kept (fun k q hq => hk q.1 (h2 k q hq).lt), h3⟩
section GXR
variable {G : fm_G} {X : fm_X} {own : String} {cc : ByteArray} {nL fr lo mc ms : Nat} {M : fm_M} {kc ks pc : Nat} {ls : List (Nat × Value)} {st : List Value} {E : String} {post : fm_M → Prop}
/-- the words of a throw -/
def fm_wT (ik is ic : Nat) (E text : String) : Prop := Bundle.fit E = true ∧ (is, text) ∈ fm_strs ∧ (∀ w ∈ [Cond.classLink RX5 ik E, Cond.initialized E], w ∈ fm_tbl) ∧ (∀ w ∈ vx_atS RX5 ic E fm_names, w ∈ fm_tbl ∨ w ∈ fm_tv) ∧ ∀ w ∈ Cond.classLink RX5 ik E :: Cond.initialized E :: vx_atS RX5 ic E fm_names, vx_ot w = true
theorem g_throwS (C : GC G X RX5 cc nL fr lo mc ms) (XX : GX G X mc ms E post) (hT : G.1.stackTraces = false) {ik is ic : Nat} {text : String} (w : fm_wT ik is ic E text) (d0 : decode cc pc = .ok (.new ik, 3)) (d3 : decode cc (pc + 3) = .ok (.dup, 1)) (d4 : decode cc (pc + 4) = .ok (.ldc is, 2)) (d6 : decode cc (pc + 6) = .ok (.invokespecial ic, 3)) (d9 : decode cc (pc + 9) = .ok (.athrow, 1)) (hp : post M) (hfr : 6 ≤ fr) (hlo : 82 ≤ lo) (hc : kc + 1 ≤ mc) (hs : ks + 6 ≤ ms) : GW G X nL M kc ks pc ls [] := by
  obtain ⟨p, e, R, s, m, args, below, meth, c, Q, A⟩ := X
  obtain ⟨hx, hb, hown, hts, hK, hA, hml, hlocks, hR, hZ⟩ := C
  obtain ⟨hS0, htab, hQ⟩ := XX
  obtain ⟨w1, w2, w3, w4, w5⟩ := w
  intro H locs la hP hS hv
  subst hQ
  obtain ⟨sa, hsa⟩ := hS0.1 _ w2
  refine vx_throwS (A := A) (names := fm_names) hx hb hT hown w1 (by decide) (hts _ (w3 _ (by simp))) (hts _ (w3 _ (by simp))) hsa (fun w0 h0 => (w4 w0 h0).elim (fun z => hts w0 z) (fun z => hS0.2 w0 z args)) w5 (hZ (Bundle.tN, "UNASSIGNED_STACK", Bundle.steD) (by decide)) (hZ (Bundle.tN, "SUPPRESSED_SENTINEL", Bundle.listD) (by decide)) hS (hv.1.trans hml.symm) d0 d3 d4 d6 d9 (fun x hx => (htab x hx).elim) (by rw [hR.1]; show 2 + 3 < fr; omega) (by rw [hR.2.1]; show 0 + (13 * 3 + 43) ≤ lo; omega) (by rw [hR.2.2.1]; exact hc) (by rw [hR.2.2.2]; exact hs) hlocks ?_ hS.2.2 hc hs
  intro t _ h1 h2
  refine ⟨rfl, ⟨M, hp, hP.kept h2⟩, Nat.le_trans hS.1 h1, fun q q1 q2 => ?_⟩
  rw [h2 q (Nat.lt_of_lt_of_le q1 hS.1)]
  exact hS.2.1 q q1 q2
/-- a static call throws, and so does this method -/
theorem g_outS (C : GC G X own cc nL fr lo mc ms) (XX : GX G X mc ms E post) {y : MethodName} {cy : ByteArray} {maxL fr' lo' mc' ms' idx n : Nat} {ret : Option FieldType} {As rest : List Value} {post' : fm_M → Prop} (hd : decode cc pc = .ok (.invokestatic idx, 3)) (w : fm_wS own idx y cy maxL ret n) (K : fm_CtX G y cy maxL ret fr' lo' mc' ms' As M E post') (hn : As.length = n) (hst : st = As.reverse ++ rest) (hcat : (rest.map fun v => v.category).sum ≤ 8) (hfr : fr' + 1 ≤ fr) (hlo : 8 + (maxL + 11) + lo' ≤ lo) (hc : kc + mc' ≤ mc) (hs : ks + ms' ≤ ms) (hpp : ∀ M1, post' M1 → post M1) : GW G X nL M kc ks pc ls st := by
  obtain ⟨p, e, R, s, m, args, below, meth, c, Q, A⟩ := X
  obtain ⟨hx, hb, hown, hts, hK, hA, hml, hlocks, hR, hZ⟩ := C
  obtain ⟨hS0, htab, hQ⟩ := XX
  intro H locs la hP hS hv
  subst hst
  subst hQ
  have hsub := fm_sub hP hS hA
  have hr := vx_runS (e := e) (below := below) (meth := meth) (locs := locs) (cells := kc) (slots := ks) (g := F0 m pc la (As.reverse ++ rest)) (As := As) (rest := rest) ⟨hx, hb, hml, hown, hts⟩ (K H.size) (va_cwS n hts (fm_good (fun w0 h0 => (by
    rcases List.mem_append.mp h0 with h0 | h0
    · exact w.1 w0 (List.mem_append_left [Cond.code y cy maxL ret] h0)
    · rcases List.mem_cons.mp h0 with rfl | h0
      · exact w.1 _ (List.mem_append_right ([.methodLink own idx y, .static y, .initialized y.cls] : List Cond) (List.mem_singleton.mpr rfl))
      · exact h0))) rfl rfl rfl w.2 ⟨by rw [hR.1]; exact hfr, by rw [hR.2.1]; exact hlo⟩) ⟨fm_blindX, fun U hU hW => ⟨rfl, fm_pre hP hS hA hK hZ hU hW, hS0.warm hW⟩⟩ rfl hn hv.1 rfl (lv_room hcat) hd ⟨by rw [hR.2.2.1]; exact hc, by rw [hR.2.2.2]; exact hs⟩
  intro T hT0 X0
  rcases hr T hT0 X0 with ⟨v, st₀, t, T', L, h0, X', hL, e1, e2, hq, st⟩ | ⟨q, st₀, t, T', L, E', ce, h0, X', hL, e1, e2, ⟨rfl, ⟨M1, hp1, hP1⟩, hz, hk⟩, hce, hcv, hcl, st⟩
  · exact hq.elim
  · rw [h0] at hz hk
    have hS1 : va_S A s.heap T'.heap (locs ++ L) := ⟨Nat.le_trans hS.1 (by rw [e1]; exact hz), fun q h1 h2 => by rw [e1, hk q (Nat.lt_of_lt_of_le h1 hS.1) (fun z => h2 (hsub q z))]; exact hS.2.1 q h1 h2, fun q hq => by
      rcases List.mem_append.mp hq with h | h
      · exact hS.2.2 q h
      · exact hsub _ (hL q h)⟩
    have hP2 : fm_P G.2.1 A M1 T'.heap := by rw [e1]; exact hP1.weak (fun a e h => hsub a (hP1.mem h))
    obtain ⟨t2, a1, b1⟩ := vx_out (p := p) (l := G.1) (e := e) (R := R) (args := args) (below := below) (ls := la) (rest := rest) (pc := pc) (Qc := fun _ _ _ _ => False) (XC := fm_XC G A E' post) (free := A) (mc := mc) (ms := ms) (fun x hx => (htab x hx).elim) hlocks (by rw [e1]; exact hce) hcv hcl (fun t3 h3 _ => ⟨rfl, ⟨M1, hpp M1 hp1, by rw [h3]; exact hP2⟩, hS1.F h3⟩) hS1.2.2 hc hs T' rfl X'
    exact ⟨t2, st.trans a1, b1⟩
end GXR

def fm_okT (ik ic : Nat) (E : String) : Bool := Bundle.fit E && ([Cond.classLink RX5 ik E, Cond.initialized E].all (fun w => decide (w ∈ lw_tbl) && goodWord w) && ((vx_atS RX5 ic E fm_names).all (fun w => (decide (w ∈ lw_tbl) && goodWord w) || decide (w ∈ fm_tv)) && (Cond.classLink RX5 ik E :: Cond.initialized E :: vx_atS RX5 ic E fm_names).all vx_ot))
theorem fm_wT_of {ik is ic : Nat} {E text : String} (h : fm_okT ik ic E = true) (hs : (is, text) ∈ fm_strs) : fm_wT ik is ic E text := by
  unfold fm_okT at h
  rw [Bool.and_eq_true, Bool.and_eq_true, Bool.and_eq_true, List.all_eq_true, List.all_eq_true, List.all_eq_true] at h
  obtain ⟨h1, h2, h3, h4⟩ := h
  refine ⟨h1, hs, fun w hw => ?_, fun w hw => ?_, h4⟩
  · have := h2 w hw
    rw [Bool.and_eq_true, decide_eq_true_iff] at this
    exact fm_in this.1 this.2
  · have := h3 w hw
    rw [Bool.or_eq_true, Bool.and_eq_true, decide_eq_true_iff, decide_eq_true_iff] at this
    exact this.imp (fun z => fm_in z.1 z.2) id

theorem wT_eA : fm_okT 132 136 eA = true := by decide +kernel
theorem wT_eS : fm_okT 51 55 eS = true := by decide +kernel
theorem wT_eB : fm_okT 89 93 eB = true := by decide +kernel
theorem wT_eU : fm_okT 111 115 eU = true := by decide +kernel
