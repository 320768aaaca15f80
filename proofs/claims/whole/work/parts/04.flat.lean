/-! A FLAT MEMORY: what the heap holds at an address, as a function; a judgement GW at (pc, locals, stack, memory); a row an instruction. -/
abbrev fm_M : Type := Nat → Option va_E
abbrev fm_G : Type := Launch × va_G × (Nat → ClassId)
/-- the heap holds the memory; its addresses are in A -/
def fm_P (D : va_G) (A : Nat → Prop) (M : fm_M) (H : Heap) : Prop := ∃ (L : List Nat) (f : Nat → va_E), (∀ a : Nat, M a = if a ∈ L then some (f a) else none) ∧ va_P D vwCl (va_pl L f) H ∧ va_D A (va_pl L f)
/-- what a method may change: its memory, and what it makes -/
def fm_A (M : fm_M) (sz : Nat) : Nat → Prop := fun q => (∃ e, M q = some e) ∨ sz ≤ q
def fm_set (M : fm_M) (a : Nat) (e : va_E) : fm_M := fun q => if q = a then some e else M q
theorem fm_set_eq (M : fm_M) (a : Nat) (e : va_E) : fm_set M a e a = some e := if_pos rfl
theorem fm_set_ne (M : fm_M) {a b : Nat} (e : va_E) (h : b ≠ a) : fm_set M a e b = M b := if_neg h
/-- kinds of contents: ints, longs, references, an object -/
abbrev fm_I (G : fm_G) (n : Nat) (f : Nat → Int32) : va_E := .inl (G.2.2 0, n, .inl f)
abbrev fm_L (G : fm_G) (n : Nat) (f : Nat → Int64) : va_E := .inl (G.2.2 1, n, .inr (.inl f))
abbrev fm_R (G : fm_G) (t n : Nat) (f : Nat → Option Nat) : va_E := .inl (G.2.2 t, n, .inr (.inr (.inr (.inr f))))
abbrev fm_O (ci : Nat) (fs : List Value) : va_E := .inr (ci, fs)
/-- locals by number -/
def fm_lk : List (Nat × Value) → Nat → Option Value
  | [], _ => none
  | (j, v) :: r, i => match Nat.beq j i with
    | true => some v
    | false => fm_lk r i
def fm_keep (i : Nat) (two : Bool) (q : Nat × Value) : Bool := !(Nat.beq q.1 i) && (!(two && Nat.beq q.1 (i + 1)) && !(Nat.beq (q.1 + 1) i && Nat.beq q.2.category 2))
def fm_put (two : Bool) (i : Nat) (v : Value) : List (Nat × Value) → List (Nat × Value)
  | [] => [(i, v)]
  | q :: r => match Nat.beq q.1 i with
    | true => (i, v) :: r.filter (fm_keep i two)
    | false => match fm_keep i two q with
      | true => q :: fm_put two i v r
      | false => fm_put two i v r
def fm_sel (ls : List (Nat × Value)) : List Nat → Option (List (Nat × Value))
  | [] => some []
  | k :: r => match fm_lk ls k with
    | some v => match fm_sel ls r with
      | some t => some ((k, v) :: t)
      | none => none
    | none => none
theorem fm_lk_mem {ls : List (Nat × Value)} {i : Nat} {v : Value} (h : fm_lk ls i = some v) : (i, v) ∈ ls := by
  induction ls with
  | nil => cases h
  | cons q r ih =>
    obtain ⟨j, w⟩ := q
    unfold fm_lk at h
    cases hb : Nat.beq j i with
    | true =>
      rw [hb] at h
      have e1 : j = i := Nat.eq_of_beq_eq_true hb
      have e2 : w = v := Option.some.inj h
      subst e1; subst e2
      exact List.mem_cons_self
    | false =>
      rw [hb] at h
      exact List.mem_cons_of_mem _ (ih h)
theorem fm_put_mem {two : Bool} {i : Nat} {v : Value} {ls : List (Nat × Value)} {q : Nat × Value} (h : q ∈ fm_put two i v ls) : q = (i, v) ∨ (q ∈ ls ∧ fm_keep i two q = true) := by
  induction ls with
  | nil => exact Or.inl (List.mem_singleton.mp h)
  | cons w r ih =>
    unfold fm_put at h
    cases hb : Nat.beq w.1 i with
    | true =>
      rw [hb] at h
      rcases List.mem_cons.mp h with h | h
      · exact Or.inl h
      · obtain ⟨h1, h2⟩ := List.mem_filter.mp h
        exact Or.inr ⟨List.mem_cons_of_mem _ h1, h2⟩
    | false =>
      rw [hb] at h
      cases hk : fm_keep i two w with
      | true =>
        rw [hk] at h
        rcases List.mem_cons.mp h with h | h
        · subst h
          exact Or.inr ⟨List.mem_cons_self, hk⟩
        · rcases ih h with h | h
          · exact Or.inl h
          · exact Or.inr ⟨List.mem_cons_of_mem _ h.1, h.2⟩
      | false =>
        rw [hk] at h
        rcases ih h with h | h
        · exact Or.inl h
        · exact Or.inr ⟨List.mem_cons_of_mem _ h.1, h.2⟩
theorem fm_sel_mem {ls ls' : List (Nat × Value)} {ks : List Nat} (h : fm_sel ls ks = some ls') : ∀ q ∈ ls', q ∈ ls := by
  induction ks generalizing ls' with
  | nil => cases h; intro q hq; cases hq
  | cons k r ih =>
    unfold fm_sel at h
    cases h1 : fm_lk ls k with
    | none => rw [h1] at h; cases h
    | some v =>
      rw [h1] at h
      cases h2 : fm_sel ls r with
      | none => rw [h2] at h; cases h
      | some t =>
        rw [h2] at h
        cases h
        intro q hq
        rcases List.mem_cons.mp hq with rfl | hq
        · exact fm_lk_mem h1
        · exact ih h2 q hq
theorem fm_lk_has {la : Array Slot} {nL : Nat} {ls : List (Nat × Value)} {i : Nat} {v : Value} (hv : lv_has la nL ls) (h : fm_lk ls i = some v) : la[i]? = some (.val v) := hv.2.2 (i, v) (fm_lk_mem h)
theorem fm_has_sub {la : Array Slot} {nL : Nat} {ls ls' : List (Nat × Value)} (hv : lv_has la nL ls) (h : ∀ q ∈ ls', q ∈ ls) : lv_has la nL ls' := ⟨hv.1, hv.2.1, fun q hq => hv.2.2 q (h q hq)⟩
theorem fm_beq (a b : Nat) : (a == b) = Nat.beq a b := by
  cases h : Nat.beq a b with
  | true => rw [Nat.eq_of_beq_eq_true h]; exact beq_self_eq_true b
  | false => exact beq_eq_false_iff_ne.mpr (Nat.ne_of_beq_eq_false h)
theorem fm_put1 {la : Array Slot} {nL i : Nat} {v : Value} {ls : List (Nat × Value)} (hv : lv_has la nL ((i, v) :: ls.filter (fun q => !(q.1 == i) && !(q.1 + 1 == i && q.2.category == 2)))) : lv_has la nL (fm_put false i v ls) := by
  refine fm_has_sub hv fun q hq => ?_
  rcases fm_put_mem hq with rfl | ⟨h1, h2⟩
  · exact List.mem_cons_self
  · refine List.mem_cons_of_mem _ (List.mem_filter.mpr ⟨h1, ?_⟩)
    simp only [fm_keep, Bool.false_and, Bool.not_false, Bool.true_and] at h2
    simp only [fm_beq]
    exact h2
theorem fm_put2 {la : Array Slot} {nL i : Nat} {v : Value} {ls : List (Nat × Value)} (hv : lv_has la nL ((i, v) :: ls.filter (fun q => !(q.1 == i) && (!(q.1 == i + 1) && !(q.1 + 1 == i && q.2.category == 2))))) : lv_has la nL (fm_put true i v ls) := by
  refine fm_has_sub hv fun q hq => ?_
  rcases fm_put_mem hq with rfl | ⟨h1, h2⟩
  · exact List.mem_cons_self
  · refine List.mem_cons_of_mem _ (List.mem_filter.mpr ⟨h1, ?_⟩)
    simp only [fm_keep, Bool.true_and] at h2
    simp only [fm_beq]
    exact h2
/-- the words that every method is proved under: those of the tables that stay -/
def fm_tbl : List Cond := lw_tbl.filter goodWord
/-- a run of a method: the machine, the method, its start, what it must end in, what it may change -/
abbrev fm_X : Type := Program × Env × Room × State × MethodId × Array Value × List Frame × Method × Code × (State → Prop) × (Nat → Prop)
/-- what the tables say of our classes and arrays; the links of private members -/
def fm_K (G : fm_G) (U : State) : Prop := va_K G.2.1 vwCl (fm_tys G.2.2) U ∧ (∀ q ∈ fm_nest, va_Nw (.methodLinkNest q.1 q.2.1 q.2.2.1 q.2.2.2) U) ∧ ∀ C ∈ fm_refs, va_AO C U
def fm_Z (A : Nat → Prop) (U : State) (H : Heap) : Prop := ∀ q ∈ fm_stat, vx_Zq q.1 q.2.1 q.2.2 A U H
/-- the judgement -/
def GW (G : fm_G) (X : fm_X) (nL : Nat) (M : fm_M) (kc ks pc : Nat) (ls : List (Nat × Value)) (st : List Value) : Prop := match X with
  | (p, e, R, s, m, args, below, meth, c, Q, A) => ∀ (H : Heap) (locs : List Loc) (la : Array Slot), fm_P G.2.1 A M H → va_S A s.heap H locs → lv_has la nL ls → W p G.1 e R s m args below meth c H locs kc ks Q (F0 m pc la st)
/-- what holds all through a method's run -/
def GC (G : fm_G) (X : fm_X) (own : String) (cc : ByteArray) (nL fr lo mc ms : Nat) : Prop := match X with
  | (p, _, R, s, m, args, _, meth, c, _, A) => p.tables.exec = Jvm.exec ∧ c.code = cc ∧ s.vm.findClass own = some m.cls ∧ (∀ w ∈ fm_tbl, w.before args s = true) ∧ fm_K G s ∧ (∀ q : Nat, s.heap.size ≤ q → A q) ∧ c.maxLocals = nL ∧ meth.locks = false ∧ (R.frames = fr ∧ R.locals = lo ∧ R.cells = mc ∧ R.slots = ms) ∧ fm_Z A s s.heap
theorem fm_P.at {D : va_G} {A : Nat → Prop} {M : fm_M} {H : Heap} (h : fm_P D A M H) {a : Nat} {e : va_E} (ha : M a = some e) : ∃ (L : List Nat) (f : Nat → va_E) (k : Nat), (∀ a : Nat, M a = if a ∈ L then some (f a) else none) ∧ va_P D vwCl (va_pl L f) H ∧ va_D A (va_pl L f) ∧ a ∈ L ∧ f a = e ∧ (va_pl L f)[k]? = some (a, e) := by
  obtain ⟨L, f, h1, h2, h3⟩ := h
  have h4 := h1 a
  rw [ha] at h4
  by_cases hm : a ∈ L
  · rw [if_pos hm] at h4
    have h5 : f a = e := (Option.some.inj h4).symm
    obtain ⟨k, hk⟩ := va_pl_get (X := []) (f := f) hm
    exact ⟨L, f, k, h1, h2, h3, hm, h5, by rw [← h5]; exact hk⟩
  · rw [if_neg hm] at h4
    cases h4
theorem fm_P.put {D : va_G} {A : Nat → Prop} {M : fm_M} {H1 : Heap} {L : List Nat} {f : Nat → va_E} {a k : Nat} {e e' : va_E} (h1 : ∀ a : Nat, M a = if a ∈ L then some (f a) else none) (hD : va_D A (va_pl L f)) (hm : a ∈ L) (he : f a = e) (hk : (va_pl L f)[k]? = some (a, e))
    (hP1 : va_P D vwCl ((va_pl L f).set k (a, e')) H1) (hD1 : va_D A ((va_pl L f).set k (a, e'))) : fm_P D A (fm_set M a e') H1 := by
  have hs : (va_pl L f).set k (a, e') = va_pl L (va_up f a e') := va_pl_set (X := []) hD hm (by rw [he]; exact hk)
  rw [hs] at hP1 hD1
  refine ⟨L, va_up f a e', fun b => ?_, hP1, hD1⟩
  by_cases hb : b = a
  · subst hb
    rw [fm_set_eq, if_pos hm, va_up_self]
  · rw [fm_set_ne _ _ hb, h1 b, va_up_ne _ _ hb]
theorem fm_P.new {D : va_G} {A : Nat → Prop} {M : fm_M} {H1 : Heap} {L : List Nat} {f : Nat → va_E} {q : Nat} {e : va_E} (h1 : ∀ a : Nat, M a = if a ∈ L then some (f a) else none)
    (hP1 : va_P D vwCl (va_pl L f ++ [(q, e)]) H1) (hD1 : va_D A (va_pl L f ++ [(q, e)])) : M q = none ∧ fm_P D A (fm_set M q e) H1 := by
  have hq : q ∉ L := va_pl_fresh2 (X := []) hD1
  rw [va_pl_push hq] at hP1 hD1
  refine ⟨by rw [h1 q, if_neg hq], L ++ [q], va_up f q e, fun b => ?_, hP1, hD1⟩
  by_cases hb : b = q
  · subst hb
    rw [fm_set_eq, if_pos (List.mem_append_right _ (List.mem_singleton.mpr rfl)), va_up_self]
  · have hi : b ∈ L ++ [q] ↔ b ∈ L := by simp [hb]
    rw [fm_set_ne _ _ hb, h1 b, va_up_ne _ _ hb]
    by_cases hm : b ∈ L
    · rw [if_pos hm, if_pos (hi.mpr hm)]
    · rw [if_neg hm, if_neg (fun z => hm (hi.mp z))]
theorem fm_P.mem {D : va_G} {A : Nat → Prop} {M : fm_M} {H : Heap} (h : fm_P D A M H) {a : Nat} {e : va_E} (ha : M a = some e) : A a := by
  obtain ⟨L, f, k, -, -, h3, -, -, hk⟩ := h.at ha
  exact h3.2 k _ hk
theorem fm_P.lt {D : va_G} {A : Nat → Prop} {M : fm_M} {H : Heap} (h : fm_P D A M H) {a : Nat} {e : va_E} (ha : M a = some e) : a < H.size := by
  obtain ⟨L, f, k, -, h2, -, -, -, hk⟩ := h.at ha
  exact (h2 k _ hk).lt
theorem fm_P.weak {D : va_G} {A B : Nat → Prop} {M : fm_M} {H : Heap} (h : fm_P D A M H) (hAB : ∀ (a : Nat) (e : va_E), M a = some e → B a) : fm_P D B M H := by
  obtain ⟨L, f, h1, h2, h3⟩ := h
  refine ⟨L, f, h1, h2, h3.1, fun k q hk => ?_⟩
  have hm : q ∈ va_pl L f := List.mem_of_getElem? hk
  obtain ⟨a, ha, rfl⟩ := List.mem_map.mp hm
  exact hAB a (f a) (by rw [h1 a, if_pos ha])
section FMR
variable {G : fm_G} {X : fm_X} {own : String} {cc : ByteArray} {nL fr lo mc ms : Nat} {M : fm_M} {kc ks pc : Nat} {ls : List (Nat × Value)} {st : List Value}

theorem g_iconst (C : GC G X own cc nL fr lo mc ms) {n : Int} {v : Int32} (hd : decode cc pc = .ok (.iconst n, 1)) (hv0 : Int32.ofInt n = v) (kk : GW G X nL M kc ks (pc + 1) ls (.int v :: st)) : GW G X nL M kc ks pc ls st := by
  obtain ⟨p, e, R, s, m, args, below, meth, c, Q, A⟩ := X
  obtain ⟨hx, hb, hown, hts, hK, hA, hml, hlocks, hR, hZ⟩ := C
  intro H locs la hP hS hv
  exact lv_iconst hx hb hd hv0 (kk H locs la hP hS hv)
theorem g_bipush (C : GC G X own cc nL fr lo mc ms) {n : Int} {v : Int32} (hd : decode cc pc = .ok (.bipush n, 2)) (hv0 : (Int8.ofInt n).toInt32 = v) (kk : GW G X nL M kc ks (pc + 2) ls (.int v :: st)) : GW G X nL M kc ks pc ls st := by
  obtain ⟨p, e, R, s, m, args, below, meth, c, Q, A⟩ := X
  obtain ⟨hx, hb, hown, hts, hK, hA, hml, hlocks, hR, hZ⟩ := C
  intro H locs la hP hS hv
  exact lv_bipush hx hb hd hv0 (kk H locs la hP hS hv)
theorem g_sipush (C : GC G X own cc nL fr lo mc ms) {n : Int} {v : Int32} (hd : decode cc pc = .ok (.sipush n, 3)) (hv0 : (Int16.ofInt n).toInt32 = v) (kk : GW G X nL M kc ks (pc + 3) ls (.int v :: st)) : GW G X nL M kc ks pc ls st := by
  obtain ⟨p, e, R, s, m, args, below, meth, c, Q, A⟩ := X
  obtain ⟨hx, hb, hown, hts, hK, hA, hml, hlocks, hR, hZ⟩ := C
  intro H locs la hP hS hv
  exact lv_sipush hx hb hd hv0 (kk H locs la hP hS hv)
theorem g_lconst (C : GC G X own cc nL fr lo mc ms) {n : Fin 2} {v : Int64} (hd : decode cc pc = .ok (.lconst n, 1)) (hv0 : Int64.ofNat (n : Nat) = v) (kk : GW G X nL M kc ks (pc + 1) ls (.long v :: st)) : GW G X nL M kc ks pc ls st := by
  obtain ⟨p, e, R, s, m, args, below, meth, c, Q, A⟩ := X
  obtain ⟨hx, hb, hown, hts, hK, hA, hml, hlocks, hR, hZ⟩ := C
  intro H locs la hP hS hv
  exact lv_lconst hx hb hd hv0 (kk H locs la hP hS hv)
theorem g_null (C : GC G X own cc nL fr lo mc ms)  (hd : decode cc pc = .ok (.aconst_null, 1)) (kk : GW G X nL M kc ks (pc + 1) ls (.null :: st)) : GW G X nL M kc ks pc ls st := by
  obtain ⟨p, e, R, s, m, args, below, meth, c, Q, A⟩ := X
  obtain ⟨hx, hb, hown, hts, hK, hA, hml, hlocks, hR, hZ⟩ := C
  intro H locs la hP hS hv
  exact lv_null hx hb hd (kk H locs la hP hS hv)
theorem g_ldc (C : GC G X own cc nL fr lo mc ms) {i : Nat} {v : Int32} (hd : decode cc pc = .ok (.ldc i, 2)) (hw : Cond.constant own i v ∈ fm_tbl) (kk : GW G X nL M kc ks (pc + 2) ls (.int v :: st)) : GW G X nL M kc ks pc ls st := by
  obtain ⟨p, e, R, s, m, args, below, meth, c, Q, A⟩ := X
  obtain ⟨hx, hb, hown, hts, hK, hA, hml, hlocks, hR, hZ⟩ := C
  intro H locs la hP hS hv
  exact lv_ldc hx hb hown (hts _ hw) hd (kk H locs la hP hS hv)
theorem g_ldc2 (C : GC G X own cc nL fr lo mc ms) {i : Nat} {v : Int64} (hd : decode cc pc = .ok (.ldc2_w i, 3)) (hw : Cond.constantLong own i v ∈ fm_tbl) (kk : GW G X nL M kc ks (pc + 3) ls (.long v :: st)) : GW G X nL M kc ks pc ls st := by
  obtain ⟨p, e, R, s, m, args, below, meth, c, Q, A⟩ := X
  obtain ⟨hx, hb, hown, hts, hK, hA, hml, hlocks, hR, hZ⟩ := C
  intro H locs la hP hS hv
  exact lv_ldc2 hx hb hown (hts _ hw) hd (kk H locs la hP hS hv)
theorem g_iload_n (C : GC G X own cc nL fr lo mc ms) {k : Fin 4} {x : Int32} (hd : decode cc pc = .ok (.iload_n k, 1)) (hl : fm_lk ls (k : Nat) = some (.int x)) (kk : GW G X nL M kc ks (pc + 1) ls (.int x :: st)) : GW G X nL M kc ks pc ls st := by
  obtain ⟨p, e, R, s, m, args, below, meth, c, Q, A⟩ := X
  obtain ⟨hx, hb, hown, hts, hK, hA, hml, hlocks, hR, hZ⟩ := C
  intro H locs la hP hS hv
  exact lv_iload_n hx hb hd rfl (fm_lk_has hv hl) (kk H locs la hP hS hv)
theorem g_iload (C : GC G X own cc nL fr lo mc ms) {i : Nat} {x : Int32} (hd : decode cc pc = .ok (.iload i, 2)) (hl : fm_lk ls i = some (.int x)) (kk : GW G X nL M kc ks (pc + 2) ls (.int x :: st)) : GW G X nL M kc ks pc ls st := by
  obtain ⟨p, e, R, s, m, args, below, meth, c, Q, A⟩ := X
  obtain ⟨hx, hb, hown, hts, hK, hA, hml, hlocks, hR, hZ⟩ := C
  intro H locs la hP hS hv
  exact lv_iload hx hb hd (fm_lk_has hv hl) (kk H locs la hP hS hv)
theorem g_istore_n (C : GC G X own cc nL fr lo mc ms) {k : Fin 4} {x : Int32} (hd : decode cc pc = .ok (.istore_n k, 1)) (hn : (k : Nat) < nL) (kk : GW G X nL M kc ks (pc + 1) (fm_put false (k : Nat) (.int x) ls) st) : GW G X nL M kc ks pc ls (.int x :: st) := by
  obtain ⟨p, e, R, s, m, args, below, meth, c, Q, A⟩ := X
  obtain ⟨hx, hb, hown, hts, hK, hA, hml, hlocks, hR, hZ⟩ := C
  intro H locs la hP hS hv
  exact lv_istore_n hx hb hd rfl hv hn rfl (fun la1 hv1 => kk H locs la1 hP hS (fm_put1 hv1))
theorem g_istore (C : GC G X own cc nL fr lo mc ms) {i : Nat} {x : Int32} (hd : decode cc pc = .ok (.istore i, 2)) (hn : i < nL) (kk : GW G X nL M kc ks (pc + 2) (fm_put false i (.int x) ls) st) : GW G X nL M kc ks pc ls (.int x :: st) := by
  obtain ⟨p, e, R, s, m, args, below, meth, c, Q, A⟩ := X
  obtain ⟨hx, hb, hown, hts, hK, hA, hml, hlocks, hR, hZ⟩ := C
  intro H locs la hP hS hv
  exact lv_istore hx hb hd hv hn rfl (fun la1 hv1 => kk H locs la1 hP hS (fm_put1 hv1))
theorem g_lload_n (C : GC G X own cc nL fr lo mc ms) {k : Fin 4} {x : Int64} (hd : decode cc pc = .ok (.lload_n k, 1)) (hl : fm_lk ls (k : Nat) = some (.long x)) (kk : GW G X nL M kc ks (pc + 1) ls (.long x :: st)) : GW G X nL M kc ks pc ls st := by
  obtain ⟨p, e, R, s, m, args, below, meth, c, Q, A⟩ := X
  obtain ⟨hx, hb, hown, hts, hK, hA, hml, hlocks, hR, hZ⟩ := C
  intro H locs la hP hS hv
  exact lv_lload_n hx hb hd rfl (fm_lk_has hv hl) (kk H locs la hP hS hv)
theorem g_lload (C : GC G X own cc nL fr lo mc ms) {i : Nat} {x : Int64} (hd : decode cc pc = .ok (.lload i, 2)) (hl : fm_lk ls i = some (.long x)) (kk : GW G X nL M kc ks (pc + 2) ls (.long x :: st)) : GW G X nL M kc ks pc ls st := by
  obtain ⟨p, e, R, s, m, args, below, meth, c, Q, A⟩ := X
  obtain ⟨hx, hb, hown, hts, hK, hA, hml, hlocks, hR, hZ⟩ := C
  intro H locs la hP hS hv
  exact lv_lload hx hb hd (fm_lk_has hv hl) (kk H locs la hP hS hv)
theorem g_lstore_n (C : GC G X own cc nL fr lo mc ms) {k : Fin 4} {x : Int64} (hd : decode cc pc = .ok (.lstore_n k, 1)) (hn : (k : Nat) + 1 < nL) (kk : GW G X nL M kc ks (pc + 1) (fm_put true (k : Nat) (.long x) ls) st) : GW G X nL M kc ks pc ls (.long x :: st) := by
  obtain ⟨p, e, R, s, m, args, below, meth, c, Q, A⟩ := X
  obtain ⟨hx, hb, hown, hts, hK, hA, hml, hlocks, hR, hZ⟩ := C
  intro H locs la hP hS hv
  exact lv_lstore_n hx hb hd rfl hv hn rfl (fun la1 hv1 => kk H locs la1 hP hS (fm_put2 hv1))
theorem g_lstore (C : GC G X own cc nL fr lo mc ms) {i : Nat} {x : Int64} (hd : decode cc pc = .ok (.lstore i, 2)) (hn : i + 1 < nL) (kk : GW G X nL M kc ks (pc + 2) (fm_put true i (.long x) ls) st) : GW G X nL M kc ks pc ls (.long x :: st) := by
  obtain ⟨p, e, R, s, m, args, below, meth, c, Q, A⟩ := X
  obtain ⟨hx, hb, hown, hts, hK, hA, hml, hlocks, hR, hZ⟩ := C
  intro H locs la hP hS hv
  exact lv_lstore hx hb hd hv hn rfl (fun la1 hv1 => kk H locs la1 hP hS (fm_put2 hv1))
theorem g_aload_n (C : GC G X own cc nL fr lo mc ms) {k : Fin 4} {x : Nat} (hd : decode cc pc = .ok (.aload_n k, 1)) (hl : fm_lk ls (k : Nat) = some (.ref x)) (kk : GW G X nL M kc ks (pc + 1) ls (.ref x :: st)) : GW G X nL M kc ks pc ls st := by
  obtain ⟨p, e, R, s, m, args, below, meth, c, Q, A⟩ := X
  obtain ⟨hx, hb, hown, hts, hK, hA, hml, hlocks, hR, hZ⟩ := C
  intro H locs la hP hS hv
  exact lv_aload_n hx hb hd rfl (fm_lk_has hv hl) (kk H locs la hP hS hv)
theorem g_aload (C : GC G X own cc nL fr lo mc ms) {i : Nat} {x : Nat} (hd : decode cc pc = .ok (.aload i, 2)) (hl : fm_lk ls i = some (.ref x)) (kk : GW G X nL M kc ks (pc + 2) ls (.ref x :: st)) : GW G X nL M kc ks pc ls st := by
  obtain ⟨p, e, R, s, m, args, below, meth, c, Q, A⟩ := X
  obtain ⟨hx, hb, hown, hts, hK, hA, hml, hlocks, hR, hZ⟩ := C
  intro H locs la hP hS hv
  exact lv_aload hx hb hd (fm_lk_has hv hl) (kk H locs la hP hS hv)
theorem g_astore_n (C : GC G X own cc nL fr lo mc ms) {k : Fin 4} {x : Nat} (hd : decode cc pc = .ok (.astore_n k, 1)) (hn : (k : Nat) < nL) (kk : GW G X nL M kc ks (pc + 1) (fm_put false (k : Nat) (.ref x) ls) st) : GW G X nL M kc ks pc ls (.ref x :: st) := by
  obtain ⟨p, e, R, s, m, args, below, meth, c, Q, A⟩ := X
  obtain ⟨hx, hb, hown, hts, hK, hA, hml, hlocks, hR, hZ⟩ := C
  intro H locs la hP hS hv
  exact lv_astore_n hx hb hd rfl hv hn rfl (fun la1 hv1 => kk H locs la1 hP hS (fm_put1 hv1))
theorem g_astore (C : GC G X own cc nL fr lo mc ms) {i : Nat} {x : Nat} (hd : decode cc pc = .ok (.astore i, 2)) (hn : i < nL) (kk : GW G X nL M kc ks (pc + 2) (fm_put false i (.ref x) ls) st) : GW G X nL M kc ks pc ls (.ref x :: st) := by
  obtain ⟨p, e, R, s, m, args, below, meth, c, Q, A⟩ := X
  obtain ⟨hx, hb, hown, hts, hK, hA, hml, hlocks, hR, hZ⟩ := C
  intro H locs la hP hS hv
  exact lv_astore hx hb hd hv hn rfl (fun la1 hv1 => kk H locs la1 hP hS (fm_put1 hv1))
theorem g_iinc (C : GC G X own cc nL fr lo mc ms) {i : Nat} {n : Int} {x : Int32} {v : Int32} (hd : decode cc pc = .ok (.iinc i n, 3)) (hl : fm_lk ls i = some (.int x)) (hv0 : x + Int32.ofInt n = v) (hn : i < nL) (kk : GW G X nL M kc ks (pc + 3) (fm_put false i (.int v) ls) st) : GW G X nL M kc ks pc ls st := by
  obtain ⟨p, e, R, s, m, args, below, meth, c, Q, A⟩ := X
  obtain ⟨hx, hb, hown, hts, hK, hA, hml, hlocks, hR, hZ⟩ := C
  intro H locs la hP hS hv
  obtain ⟨k0, hk0⟩ := List.getElem?_of_mem (fm_lk_mem hl)
  exact lv_iinc hx hb hd hv hk0 hv0 hn rfl (fun la1 hv1 => kk H locs la1 hP hS (fm_put1 hv1))
theorem g_iadd (C : GC G X own cc nL fr lo mc ms) {x y : Int32} (hd : decode cc pc = .ok (.iadd, 1)) (kk : GW G X nL M kc ks (pc + 1) ls (.int (x + y) :: st)) : GW G X nL M kc ks pc ls (.int y :: .int x :: st) := by
  obtain ⟨p, e, R, s, m, args, below, meth, c, Q, A⟩ := X
  obtain ⟨hx, hb, hown, hts, hK, hA, hml, hlocks, hR, hZ⟩ := C
  intro H locs la hP hS hv
  exact lv_iadd hx hb hd (kk H locs la hP hS hv)
theorem g_isub (C : GC G X own cc nL fr lo mc ms) {x y : Int32} (hd : decode cc pc = .ok (.isub, 1)) (kk : GW G X nL M kc ks (pc + 1) ls (.int (x - y) :: st)) : GW G X nL M kc ks pc ls (.int y :: .int x :: st) := by
  obtain ⟨p, e, R, s, m, args, below, meth, c, Q, A⟩ := X
  obtain ⟨hx, hb, hown, hts, hK, hA, hml, hlocks, hR, hZ⟩ := C
  intro H locs la hP hS hv
  exact lv_isub hx hb hd (kk H locs la hP hS hv)
theorem g_imul (C : GC G X own cc nL fr lo mc ms) {x y : Int32} (hd : decode cc pc = .ok (.imul, 1)) (kk : GW G X nL M kc ks (pc + 1) ls (.int (x * y) :: st)) : GW G X nL M kc ks pc ls (.int y :: .int x :: st) := by
  obtain ⟨p, e, R, s, m, args, below, meth, c, Q, A⟩ := X
  obtain ⟨hx, hb, hown, hts, hK, hA, hml, hlocks, hR, hZ⟩ := C
  intro H locs la hP hS hv
  exact lv_imul hx hb hd (kk H locs la hP hS hv)
theorem g_iand (C : GC G X own cc nL fr lo mc ms) {x y : Int32} (hd : decode cc pc = .ok (.iand, 1)) (kk : GW G X nL M kc ks (pc + 1) ls (.int (x &&& y) :: st)) : GW G X nL M kc ks pc ls (.int y :: .int x :: st) := by
  obtain ⟨p, e, R, s, m, args, below, meth, c, Q, A⟩ := X
  obtain ⟨hx, hb, hown, hts, hK, hA, hml, hlocks, hR, hZ⟩ := C
  intro H locs la hP hS hv
  exact lv_iand hx hb hd (kk H locs la hP hS hv)
theorem g_ior (C : GC G X own cc nL fr lo mc ms) {x y : Int32} (hd : decode cc pc = .ok (.ior, 1)) (kk : GW G X nL M kc ks (pc + 1) ls (.int (x ||| y) :: st)) : GW G X nL M kc ks pc ls (.int y :: .int x :: st) := by
  obtain ⟨p, e, R, s, m, args, below, meth, c, Q, A⟩ := X
  obtain ⟨hx, hb, hown, hts, hK, hA, hml, hlocks, hR, hZ⟩ := C
  intro H locs la hP hS hv
  exact lv_ior hx hb hd (kk H locs la hP hS hv)
theorem g_ixor (C : GC G X own cc nL fr lo mc ms) {x y : Int32} (hd : decode cc pc = .ok (.ixor, 1)) (kk : GW G X nL M kc ks (pc + 1) ls (.int (x ^^^ y) :: st)) : GW G X nL M kc ks pc ls (.int y :: .int x :: st) := by
  obtain ⟨p, e, R, s, m, args, below, meth, c, Q, A⟩ := X
  obtain ⟨hx, hb, hown, hts, hK, hA, hml, hlocks, hR, hZ⟩ := C
  intro H locs la hP hS hv
  exact lv_ixor hx hb hd (kk H locs la hP hS hv)
theorem g_ladd (C : GC G X own cc nL fr lo mc ms) {x y : Int64} (hd : decode cc pc = .ok (.ladd, 1)) (kk : GW G X nL M kc ks (pc + 1) ls (.long (x + y) :: st)) : GW G X nL M kc ks pc ls (.long y :: .long x :: st) := by
  obtain ⟨p, e, R, s, m, args, below, meth, c, Q, A⟩ := X
  obtain ⟨hx, hb, hown, hts, hK, hA, hml, hlocks, hR, hZ⟩ := C
  intro H locs la hP hS hv
  exact lv_ladd hx hb hd (kk H locs la hP hS hv)
theorem g_lsub (C : GC G X own cc nL fr lo mc ms) {x y : Int64} (hd : decode cc pc = .ok (.lsub, 1)) (kk : GW G X nL M kc ks (pc + 1) ls (.long (x - y) :: st)) : GW G X nL M kc ks pc ls (.long y :: .long x :: st) := by
  obtain ⟨p, e, R, s, m, args, below, meth, c, Q, A⟩ := X
  obtain ⟨hx, hb, hown, hts, hK, hA, hml, hlocks, hR, hZ⟩ := C
  intro H locs la hP hS hv
  exact lv_lsub hx hb hd (kk H locs la hP hS hv)
theorem g_lmul (C : GC G X own cc nL fr lo mc ms) {x y : Int64} (hd : decode cc pc = .ok (.lmul, 1)) (kk : GW G X nL M kc ks (pc + 1) ls (.long (x * y) :: st)) : GW G X nL M kc ks pc ls (.long y :: .long x :: st) := by
  obtain ⟨p, e, R, s, m, args, below, meth, c, Q, A⟩ := X
  obtain ⟨hx, hb, hown, hts, hK, hA, hml, hlocks, hR, hZ⟩ := C
  intro H locs la hP hS hv
  exact lv_lmul hx hb hd (kk H locs la hP hS hv)
theorem g_land (C : GC G X own cc nL fr lo mc ms) {x y : Int64} (hd : decode cc pc = .ok (.land, 1)) (kk : GW G X nL M kc ks (pc + 1) ls (.long (x &&& y) :: st)) : GW G X nL M kc ks pc ls (.long y :: .long x :: st) := by
  obtain ⟨p, e, R, s, m, args, below, meth, c, Q, A⟩ := X
  obtain ⟨hx, hb, hown, hts, hK, hA, hml, hlocks, hR, hZ⟩ := C
  intro H locs la hP hS hv
  exact lv_land hx hb hd (kk H locs la hP hS hv)
theorem g_lor (C : GC G X own cc nL fr lo mc ms) {x y : Int64} (hd : decode cc pc = .ok (.lor, 1)) (kk : GW G X nL M kc ks (pc + 1) ls (.long (x ||| y) :: st)) : GW G X nL M kc ks pc ls (.long y :: .long x :: st) := by
  obtain ⟨p, e, R, s, m, args, below, meth, c, Q, A⟩ := X
  obtain ⟨hx, hb, hown, hts, hK, hA, hml, hlocks, hR, hZ⟩ := C
  intro H locs la hP hS hv
  exact lv_lor hx hb hd (kk H locs la hP hS hv)
theorem g_lxor (C : GC G X own cc nL fr lo mc ms) {x y : Int64} (hd : decode cc pc = .ok (.lxor, 1)) (kk : GW G X nL M kc ks (pc + 1) ls (.long (x ^^^ y) :: st)) : GW G X nL M kc ks pc ls (.long y :: .long x :: st) := by
  obtain ⟨p, e, R, s, m, args, below, meth, c, Q, A⟩ := X
  obtain ⟨hx, hb, hown, hts, hK, hA, hml, hlocks, hR, hZ⟩ := C
  intro H locs la hP hS hv
  exact lv_lxor hx hb hd (kk H locs la hP hS hv)
theorem g_ishl (C : GC G X own cc nL fr lo mc ms) {x y : Int32} (hd : decode cc pc = .ok (.ishl, 1)) (kk : GW G X nL M kc ks (pc + 1) ls (.int (x <<< (y &&& 31)) :: st)) : GW G X nL M kc ks pc ls (.int y :: .int x :: st) := by
  obtain ⟨p, e, R, s, m, args, below, meth, c, Q, A⟩ := X
  obtain ⟨hx, hb, hown, hts, hK, hA, hml, hlocks, hR, hZ⟩ := C
  intro H locs la hP hS hv
  exact lv_ishl hx hb hd (kk H locs la hP hS hv)
theorem g_ishr (C : GC G X own cc nL fr lo mc ms) {x y : Int32} (hd : decode cc pc = .ok (.ishr, 1)) (kk : GW G X nL M kc ks (pc + 1) ls (.int (x >>> (y &&& 31)) :: st)) : GW G X nL M kc ks pc ls (.int y :: .int x :: st) := by
  obtain ⟨p, e, R, s, m, args, below, meth, c, Q, A⟩ := X
  obtain ⟨hx, hb, hown, hts, hK, hA, hml, hlocks, hR, hZ⟩ := C
  intro H locs la hP hS hv
  exact lv_ishr hx hb hd (kk H locs la hP hS hv)
theorem g_ineg (C : GC G X own cc nL fr lo mc ms) {x : Int32} (hd : decode cc pc = .ok (.ineg, 1)) (kk : GW G X nL M kc ks (pc + 1) ls (.int (-x) :: st)) : GW G X nL M kc ks pc ls (.int x :: st) := by
  obtain ⟨p, e, R, s, m, args, below, meth, c, Q, A⟩ := X
  obtain ⟨hx, hb, hown, hts, hK, hA, hml, hlocks, hR, hZ⟩ := C
  intro H locs la hP hS hv
  exact lv_ineg hx hb hd (kk H locs la hP hS hv)
theorem g_iushr (C : GC G X own cc nL fr lo mc ms) {x y : Int32} (hd : decode cc pc = .ok (.iushr, 1)) (kk : GW G X nL M kc ks (pc + 1) ls (.int (x.toUInt32 >>> (y.toUInt32 &&& Int32.toUInt32 31)).toInt32 :: st)) : GW G X nL M kc ks pc ls (.int y :: .int x :: st) := by
  obtain ⟨p, e, R, s, m, args, below, meth, c, Q, A⟩ := X
  obtain ⟨hx, hb, hown, hts, hK, hA, hml, hlocks, hR, hZ⟩ := C
  intro H locs la hP hS hv
  exact lv_iushr hx hb hd rfl (kk H locs la hP hS hv)
theorem g_lushr (C : GC G X own cc nL fr lo mc ms) {x : Int64} {y : Int32} (hd : decode cc pc = .ok (.lushr, 1)) (kk : GW G X nL M kc ks (pc + 1) ls (.long (x.toUInt64 >>> (y.toInt64.toUInt64 &&& Int64.toUInt64 63)).toInt64 :: st)) : GW G X nL M kc ks pc ls (.int y :: .long x :: st) := by
  obtain ⟨p, e, R, s, m, args, below, meth, c, Q, A⟩ := X
  obtain ⟨hx, hb, hown, hts, hK, hA, hml, hlocks, hR, hZ⟩ := C
  intro H locs la hP hS hv
  exact lv_lushr hx hb hd rfl (kk H locs la hP hS hv)
theorem g_lshl (C : GC G X own cc nL fr lo mc ms) {x : Int64} {y : Int32} (hd : decode cc pc = .ok (.lshl, 1)) (kk : GW G X nL M kc ks (pc + 1) ls (.long (x <<< (y.toInt64 &&& 63)) :: st)) : GW G X nL M kc ks pc ls (.int y :: .long x :: st) := by
  obtain ⟨p, e, R, s, m, args, below, meth, c, Q, A⟩ := X
  obtain ⟨hx, hb, hown, hts, hK, hA, hml, hlocks, hR, hZ⟩ := C
  intro H locs la hP hS hv
  exact lv_lshl hx hb hd rfl (kk H locs la hP hS hv)
theorem g_i2l (C : GC G X own cc nL fr lo mc ms) {x : Int32} (hd : decode cc pc = .ok (.i2l, 1)) (kk : GW G X nL M kc ks (pc + 1) ls (.long x.toInt64 :: st)) : GW G X nL M kc ks pc ls (.int x :: st) := by
  obtain ⟨p, e, R, s, m, args, below, meth, c, Q, A⟩ := X
  obtain ⟨hx, hb, hown, hts, hK, hA, hml, hlocks, hR, hZ⟩ := C
  intro H locs la hP hS hv
  exact lv_i2l hx hb hd rfl (kk H locs la hP hS hv)
theorem g_l2i (C : GC G X own cc nL fr lo mc ms) {x : Int64} (hd : decode cc pc = .ok (.l2i, 1)) (kk : GW G X nL M kc ks (pc + 1) ls (.int x.toInt32 :: st)) : GW G X nL M kc ks pc ls (.long x :: st) := by
  obtain ⟨p, e, R, s, m, args, below, meth, c, Q, A⟩ := X
  obtain ⟨hx, hb, hown, hts, hK, hA, hml, hlocks, hR, hZ⟩ := C
  intro H locs la hP hS hv
  exact lv_l2i hx hb hd rfl (kk H locs la hP hS hv)
theorem g_idiv (C : GC G X own cc nL fr lo mc ms) {x y : Int32} (hd : decode cc pc = .ok (.idiv, 1)) (h0 : ¬ y = 0) (kk : GW G X nL M kc ks (pc + 1) ls (.int (x / y) :: st)) : GW G X nL M kc ks pc ls (.int y :: .int x :: st) := by
  obtain ⟨p, e, R, s, m, args, below, meth, c, Q, A⟩ := X
  obtain ⟨hx, hb, hown, hts, hK, hA, hml, hlocks, hR, hZ⟩ := C
  intro H locs la hP hS hv
  exact lv_idiv hx hb hd h0 (kk H locs la hP hS hv)
theorem g_irem (C : GC G X own cc nL fr lo mc ms) {x y : Int32} (hd : decode cc pc = .ok (.irem, 1)) (h0 : ¬ y = 0) (kk : GW G X nL M kc ks (pc + 1) ls (.int (x - x / y * y) :: st)) : GW G X nL M kc ks pc ls (.int y :: .int x :: st) := by
  obtain ⟨p, e, R, s, m, args, below, meth, c, Q, A⟩ := X
  obtain ⟨hx, hb, hown, hts, hK, hA, hml, hlocks, hR, hZ⟩ := C
  intro H locs la hP hS hv
  exact lv_irem hx hb hd h0 (kk H locs la hP hS hv)
theorem g_dup (C : GC G X own cc nL fr lo mc ms) {v : Value} (hd : decode cc pc = .ok (.dup, 1)) (h1 : v.category = 1) (kk : GW G X nL M kc ks (pc + 1) ls (v :: v :: st)) : GW G X nL M kc ks pc ls (v :: st) := by
  obtain ⟨p, e, R, s, m, args, below, meth, c, Q, A⟩ := X
  obtain ⟨hx, hb, hown, hts, hK, hA, hml, hlocks, hR, hZ⟩ := C
  intro H locs la hP hS hv
  exact lv_dup hx hb hd h1 (kk H locs la hP hS hv)
theorem g_pop (C : GC G X own cc nL fr lo mc ms) {v : Value} (hd : decode cc pc = .ok (.pop, 1)) (h1 : v.category = 1) (kk : GW G X nL M kc ks (pc + 1) ls st) : GW G X nL M kc ks pc ls (v :: st) := by
  obtain ⟨p, e, R, s, m, args, below, meth, c, Q, A⟩ := X
  obtain ⟨hx, hb, hown, hts, hK, hA, hml, hlocks, hR, hZ⟩ := C
  intro H locs la hP hS hv
  exact lv_pop hx hb hd h1 (kk H locs la hP hS hv)
theorem g_pop2 (C : GC G X own cc nL fr lo mc ms) {v : Value} (hd : decode cc pc = .ok (.pop2, 1)) (h1 : v.category = 2) (kk : GW G X nL M kc ks (pc + 1) ls st) : GW G X nL M kc ks pc ls (v :: st) := by
  obtain ⟨p, e, R, s, m, args, below, meth, c, Q, A⟩ := X
  obtain ⟨hx, hb, hown, hts, hK, hA, hml, hlocks, hR, hZ⟩ := C
  intro H locs la hP hS hv
  exact lv_pop2_2 hx hb hd h1 (kk H locs la hP hS hv)
theorem g_dup_x1 (C : GC G X own cc nL fr lo mc ms) {v w : Value} (hd : decode cc pc = .ok (.dup_x1, 1)) (h1 : v.category = 1) (h2 : w.category = 1) (kk : GW G X nL M kc ks (pc + 1) ls (v :: w :: v :: st)) : GW G X nL M kc ks pc ls (v :: w :: st) := by
  obtain ⟨p, e, R, s, m, args, below, meth, c, Q, A⟩ := X
  obtain ⟨hx, hb, hown, hts, hK, hA, hml, hlocks, hR, hZ⟩ := C
  intro H locs la hP hS hv
  exact lv_dup_x1 hx hb hd h1 h2 (kk H locs la hP hS hv)
theorem g_dup_x2 (C : GC G X own cc nL fr lo mc ms) {v w u : Value} (hd : decode cc pc = .ok (.dup_x2, 1)) (h1 : v.category = 1) (h2 : w.category = 1) (h3 : u.category = 1) (kk : GW G X nL M kc ks (pc + 1) ls (v :: w :: u :: v :: st)) : GW G X nL M kc ks pc ls (v :: w :: u :: st) := by
  obtain ⟨p, e, R, s, m, args, below, meth, c, Q, A⟩ := X
  obtain ⟨hx, hb, hown, hts, hK, hA, hml, hlocks, hR, hZ⟩ := C
  intro H locs la hP hS hv
  exact lv_dup_x2 hx hb hd h1 h2 h3 (kk H locs la hP hS hv)
theorem g_dup2 (C : GC G X own cc nL fr lo mc ms) {v w : Value} (hd : decode cc pc = .ok (.dup2, 1)) (h1 : v.category = 1) (h2 : w.category = 1) (kk : GW G X nL M kc ks (pc + 1) ls (v :: w :: v :: w :: st)) : GW G X nL M kc ks pc ls (v :: w :: st) := by
  obtain ⟨p, e, R, s, m, args, below, meth, c, Q, A⟩ := X
  obtain ⟨hx, hb, hown, hts, hK, hA, hml, hlocks, hR, hZ⟩ := C
  intro H locs la hP hS hv
  exact lv_dup2_11 hx hb hd h1 h2 (kk H locs la hP hS hv)
theorem g_dup2L (C : GC G X own cc nL fr lo mc ms) {v : Value} (hd : decode cc pc = .ok (.dup2, 1)) (h1 : v.category = 2) (kk : GW G X nL M kc ks (pc + 1) ls (v :: v :: st)) : GW G X nL M kc ks pc ls (v :: st) := by
  obtain ⟨p, e, R, s, m, args, below, meth, c, Q, A⟩ := X
  obtain ⟨hx, hb, hown, hts, hK, hA, hml, hlocks, hR, hZ⟩ := C
  intro H locs la hP hS hv
  exact lv_dup2_2 hx hb hd h1 (kk H locs la hP hS hv)
theorem g_dup2_x2L (C : GC G X own cc nL fr lo mc ms) {v w u : Value} (hd : decode cc pc = .ok (.dup2_x2, 1)) (h1 : v.category = 2) (h2 : w.category = 1) (h3 : u.category = 1) (kk : GW G X nL M kc ks (pc + 1) ls (v :: w :: u :: v :: st)) : GW G X nL M kc ks pc ls (v :: w :: u :: st) := by
  obtain ⟨p, e, R, s, m, args, below, meth, c, Q, A⟩ := X
  obtain ⟨hx, hb, hown, hts, hK, hA, hml, hlocks, hR, hZ⟩ := C
  intro H locs la hP hS hv
  exact lv_dup2_x2_2 hx hb hd h1 h2 h3 (kk H locs la hP hS hv)
theorem g_if_eq (C : GC G X own cc nL fr lo mc ms) {x : Int32} {off : Int} {tgt : Nat} (hd : decode cc pc = .ok (.ifCond .eq off, 3)) (ht : (pc : Int) + off = (tgt : Int)) (kt : x = 0 → GW G X nL M kc ks tgt ls st) (kf : ¬ x = 0 → GW G X nL M kc ks (pc + 3) ls st) : GW G X nL M kc ks pc ls (.int x :: st) := by
  obtain ⟨p, e, R, s, m, args, below, meth, c, Q, A⟩ := X
  obtain ⟨hx, hb, hown, hts, hK, hA, hml, hlocks, hR, hZ⟩ := C
  intro H locs la hP hS hv
  exact lv_if_eq hx hb hd ht (fun h => kt h H locs la hP hS hv) (fun h => kf h H locs la hP hS hv)
theorem g_icmp_eq (C : GC G X own cc nL fr lo mc ms) {x y : Int32} {off : Int} {tgt : Nat} (hd : decode cc pc = .ok (.if_icmp .eq off, 3)) (ht : (pc : Int) + off = (tgt : Int)) (kt : x = y → GW G X nL M kc ks tgt ls st) (kf : ¬ x = y → GW G X nL M kc ks (pc + 3) ls st) : GW G X nL M kc ks pc ls (.int y :: .int x :: st) := by
  obtain ⟨p, e, R, s, m, args, below, meth, c, Q, A⟩ := X
  obtain ⟨hx, hb, hown, hts, hK, hA, hml, hlocks, hR, hZ⟩ := C
  intro H locs la hP hS hv
  exact lv_icmp_eq hx hb hd ht (fun h => kt h H locs la hP hS hv) (fun h => kf h H locs la hP hS hv)
theorem g_icmp_eqN (C : GC G X own cc nL fr lo mc ms) {a b : Nat} {off : Int} {tgt : Nat} (hd : decode cc pc = .ok (.if_icmp .eq off, 3)) (ht : (pc : Int) + off = (tgt : Int)) (ha : a < 2 ^ 31) (hb : b < 2 ^ 31) (kt : a = b → GW G X nL M kc ks tgt ls st) (kf : ¬ a = b → GW G X nL M kc ks (pc + 3) ls st) : GW G X nL M kc ks pc ls (.int (nI b) :: .int (nI a) :: st) :=
  g_icmp_eq C hd ht (fun h => kt ((nI_eq ha hb).mp h)) (fun h => kf (fun z => h ((nI_eq ha hb).mpr z)))
theorem g_if_ne (C : GC G X own cc nL fr lo mc ms) {x : Int32} {off : Int} {tgt : Nat} (hd : decode cc pc = .ok (.ifCond .ne off, 3)) (ht : (pc : Int) + off = (tgt : Int)) (kt : ¬ x = 0 → GW G X nL M kc ks tgt ls st) (kf : x = 0 → GW G X nL M kc ks (pc + 3) ls st) : GW G X nL M kc ks pc ls (.int x :: st) := by
  obtain ⟨p, e, R, s, m, args, below, meth, c, Q, A⟩ := X
  obtain ⟨hx, hb, hown, hts, hK, hA, hml, hlocks, hR, hZ⟩ := C
  intro H locs la hP hS hv
  exact lv_if_ne hx hb hd ht (fun h => kt h H locs la hP hS hv) (fun h => kf h H locs la hP hS hv)
theorem g_icmp_ne (C : GC G X own cc nL fr lo mc ms) {x y : Int32} {off : Int} {tgt : Nat} (hd : decode cc pc = .ok (.if_icmp .ne off, 3)) (ht : (pc : Int) + off = (tgt : Int)) (kt : ¬ x = y → GW G X nL M kc ks tgt ls st) (kf : x = y → GW G X nL M kc ks (pc + 3) ls st) : GW G X nL M kc ks pc ls (.int y :: .int x :: st) := by
  obtain ⟨p, e, R, s, m, args, below, meth, c, Q, A⟩ := X
  obtain ⟨hx, hb, hown, hts, hK, hA, hml, hlocks, hR, hZ⟩ := C
  intro H locs la hP hS hv
  exact lv_icmp_ne hx hb hd ht (fun h => kt h H locs la hP hS hv) (fun h => kf h H locs la hP hS hv)
theorem g_icmp_neN (C : GC G X own cc nL fr lo mc ms) {a b : Nat} {off : Int} {tgt : Nat} (hd : decode cc pc = .ok (.if_icmp .ne off, 3)) (ht : (pc : Int) + off = (tgt : Int)) (ha : a < 2 ^ 31) (hb : b < 2 ^ 31) (kt : ¬ a = b → GW G X nL M kc ks tgt ls st) (kf : a = b → GW G X nL M kc ks (pc + 3) ls st) : GW G X nL M kc ks pc ls (.int (nI b) :: .int (nI a) :: st) :=
  g_icmp_ne C hd ht (fun h => kt (fun z => h ((nI_eq ha hb).mpr z))) (fun h => kf ((nI_eq ha hb).mp h))
theorem g_if_lt (C : GC G X own cc nL fr lo mc ms) {x : Int32} {off : Int} {tgt : Nat} (hd : decode cc pc = .ok (.ifCond .lt off, 3)) (ht : (pc : Int) + off = (tgt : Int)) (kt : x < 0 → GW G X nL M kc ks tgt ls st) (kf : ¬ x < 0 → GW G X nL M kc ks (pc + 3) ls st) : GW G X nL M kc ks pc ls (.int x :: st) := by
  obtain ⟨p, e, R, s, m, args, below, meth, c, Q, A⟩ := X
  obtain ⟨hx, hb, hown, hts, hK, hA, hml, hlocks, hR, hZ⟩ := C
  intro H locs la hP hS hv
  exact lv_if_lt hx hb hd ht (fun h => kt h H locs la hP hS hv) (fun h => kf h H locs la hP hS hv)
theorem g_icmp_lt (C : GC G X own cc nL fr lo mc ms) {x y : Int32} {off : Int} {tgt : Nat} (hd : decode cc pc = .ok (.if_icmp .lt off, 3)) (ht : (pc : Int) + off = (tgt : Int)) (kt : x < y → GW G X nL M kc ks tgt ls st) (kf : ¬ x < y → GW G X nL M kc ks (pc + 3) ls st) : GW G X nL M kc ks pc ls (.int y :: .int x :: st) := by
  obtain ⟨p, e, R, s, m, args, below, meth, c, Q, A⟩ := X
  obtain ⟨hx, hb, hown, hts, hK, hA, hml, hlocks, hR, hZ⟩ := C
  intro H locs la hP hS hv
  exact lv_icmp_lt hx hb hd ht (fun h => kt h H locs la hP hS hv) (fun h => kf h H locs la hP hS hv)
theorem g_icmp_ltN (C : GC G X own cc nL fr lo mc ms) {a b : Nat} {off : Int} {tgt : Nat} (hd : decode cc pc = .ok (.if_icmp .lt off, 3)) (ht : (pc : Int) + off = (tgt : Int)) (ha : a < 2 ^ 31) (hb : b < 2 ^ 31) (kt : a < b → GW G X nL M kc ks tgt ls st) (kf : b ≤ a → GW G X nL M kc ks (pc + 3) ls st) : GW G X nL M kc ks pc ls (.int (nI b) :: .int (nI a) :: st) :=
  g_icmp_lt C hd ht (fun h => kt ((nI_ltI ha hb).mp h)) (fun h => kf (Nat.not_lt.mp (fun z => h ((nI_ltI ha hb).mpr z))))
theorem g_if_ge (C : GC G X own cc nL fr lo mc ms) {x : Int32} {off : Int} {tgt : Nat} (hd : decode cc pc = .ok (.ifCond .ge off, 3)) (ht : (pc : Int) + off = (tgt : Int)) (kt : 0 ≤ x → GW G X nL M kc ks tgt ls st) (kf : ¬ 0 ≤ x → GW G X nL M kc ks (pc + 3) ls st) : GW G X nL M kc ks pc ls (.int x :: st) := by
  obtain ⟨p, e, R, s, m, args, below, meth, c, Q, A⟩ := X
  obtain ⟨hx, hb, hown, hts, hK, hA, hml, hlocks, hR, hZ⟩ := C
  intro H locs la hP hS hv
  exact lv_if_ge hx hb hd ht (fun h => kt h H locs la hP hS hv) (fun h => kf h H locs la hP hS hv)
theorem g_icmp_ge (C : GC G X own cc nL fr lo mc ms) {x y : Int32} {off : Int} {tgt : Nat} (hd : decode cc pc = .ok (.if_icmp .ge off, 3)) (ht : (pc : Int) + off = (tgt : Int)) (kt : y ≤ x → GW G X nL M kc ks tgt ls st) (kf : ¬ y ≤ x → GW G X nL M kc ks (pc + 3) ls st) : GW G X nL M kc ks pc ls (.int y :: .int x :: st) := by
  obtain ⟨p, e, R, s, m, args, below, meth, c, Q, A⟩ := X
  obtain ⟨hx, hb, hown, hts, hK, hA, hml, hlocks, hR, hZ⟩ := C
  intro H locs la hP hS hv
  exact lv_icmp_ge hx hb hd ht (fun h => kt h H locs la hP hS hv) (fun h => kf h H locs la hP hS hv)
theorem g_icmp_geN (C : GC G X own cc nL fr lo mc ms) {a b : Nat} {off : Int} {tgt : Nat} (hd : decode cc pc = .ok (.if_icmp .ge off, 3)) (ht : (pc : Int) + off = (tgt : Int)) (ha : a < 2 ^ 31) (hb : b < 2 ^ 31) (kt : b ≤ a → GW G X nL M kc ks tgt ls st) (kf : a < b → GW G X nL M kc ks (pc + 3) ls st) : GW G X nL M kc ks pc ls (.int (nI b) :: .int (nI a) :: st) :=
  g_icmp_ge C hd ht (fun h => kt ((nI_leI hb ha).mp h)) (fun h => kf (Nat.not_le.mp (fun z => h ((nI_leI hb ha).mpr z))))
theorem g_if_gt (C : GC G X own cc nL fr lo mc ms) {x : Int32} {off : Int} {tgt : Nat} (hd : decode cc pc = .ok (.ifCond .gt off, 3)) (ht : (pc : Int) + off = (tgt : Int)) (kt : 0 < x → GW G X nL M kc ks tgt ls st) (kf : ¬ 0 < x → GW G X nL M kc ks (pc + 3) ls st) : GW G X nL M kc ks pc ls (.int x :: st) := by
  obtain ⟨p, e, R, s, m, args, below, meth, c, Q, A⟩ := X
  obtain ⟨hx, hb, hown, hts, hK, hA, hml, hlocks, hR, hZ⟩ := C
  intro H locs la hP hS hv
  exact lv_if_gt hx hb hd ht (fun h => kt h H locs la hP hS hv) (fun h => kf h H locs la hP hS hv)
theorem g_icmp_gt (C : GC G X own cc nL fr lo mc ms) {x y : Int32} {off : Int} {tgt : Nat} (hd : decode cc pc = .ok (.if_icmp .gt off, 3)) (ht : (pc : Int) + off = (tgt : Int)) (kt : y < x → GW G X nL M kc ks tgt ls st) (kf : ¬ y < x → GW G X nL M kc ks (pc + 3) ls st) : GW G X nL M kc ks pc ls (.int y :: .int x :: st) := by
  obtain ⟨p, e, R, s, m, args, below, meth, c, Q, A⟩ := X
  obtain ⟨hx, hb, hown, hts, hK, hA, hml, hlocks, hR, hZ⟩ := C
  intro H locs la hP hS hv
  exact lv_icmp_gt hx hb hd ht (fun h => kt h H locs la hP hS hv) (fun h => kf h H locs la hP hS hv)
theorem g_icmp_gtN (C : GC G X own cc nL fr lo mc ms) {a b : Nat} {off : Int} {tgt : Nat} (hd : decode cc pc = .ok (.if_icmp .gt off, 3)) (ht : (pc : Int) + off = (tgt : Int)) (ha : a < 2 ^ 31) (hb : b < 2 ^ 31) (kt : b < a → GW G X nL M kc ks tgt ls st) (kf : a ≤ b → GW G X nL M kc ks (pc + 3) ls st) : GW G X nL M kc ks pc ls (.int (nI b) :: .int (nI a) :: st) :=
  g_icmp_gt C hd ht (fun h => kt ((nI_ltI hb ha).mp h)) (fun h => kf (Nat.not_lt.mp (fun z => h ((nI_ltI hb ha).mpr z))))
theorem g_if_le (C : GC G X own cc nL fr lo mc ms) {x : Int32} {off : Int} {tgt : Nat} (hd : decode cc pc = .ok (.ifCond .le off, 3)) (ht : (pc : Int) + off = (tgt : Int)) (kt : x ≤ 0 → GW G X nL M kc ks tgt ls st) (kf : ¬ x ≤ 0 → GW G X nL M kc ks (pc + 3) ls st) : GW G X nL M kc ks pc ls (.int x :: st) := by
  obtain ⟨p, e, R, s, m, args, below, meth, c, Q, A⟩ := X
  obtain ⟨hx, hb, hown, hts, hK, hA, hml, hlocks, hR, hZ⟩ := C
  intro H locs la hP hS hv
  exact lv_if_le hx hb hd ht (fun h => kt h H locs la hP hS hv) (fun h => kf h H locs la hP hS hv)
theorem g_icmp_le (C : GC G X own cc nL fr lo mc ms) {x y : Int32} {off : Int} {tgt : Nat} (hd : decode cc pc = .ok (.if_icmp .le off, 3)) (ht : (pc : Int) + off = (tgt : Int)) (kt : x ≤ y → GW G X nL M kc ks tgt ls st) (kf : ¬ x ≤ y → GW G X nL M kc ks (pc + 3) ls st) : GW G X nL M kc ks pc ls (.int y :: .int x :: st) := by
  obtain ⟨p, e, R, s, m, args, below, meth, c, Q, A⟩ := X
  obtain ⟨hx, hb, hown, hts, hK, hA, hml, hlocks, hR, hZ⟩ := C
  intro H locs la hP hS hv
  exact lv_icmp_le hx hb hd ht (fun h => kt h H locs la hP hS hv) (fun h => kf h H locs la hP hS hv)
theorem g_icmp_leN (C : GC G X own cc nL fr lo mc ms) {a b : Nat} {off : Int} {tgt : Nat} (hd : decode cc pc = .ok (.if_icmp .le off, 3)) (ht : (pc : Int) + off = (tgt : Int)) (ha : a < 2 ^ 31) (hb : b < 2 ^ 31) (kt : a ≤ b → GW G X nL M kc ks tgt ls st) (kf : b < a → GW G X nL M kc ks (pc + 3) ls st) : GW G X nL M kc ks pc ls (.int (nI b) :: .int (nI a) :: st) :=
  g_icmp_le C hd ht (fun h => kt ((nI_leI ha hb).mp h)) (fun h => kf (Nat.not_le.mp (fun z => h ((nI_leI ha hb).mpr z))))
theorem g_goto (C : GC G X own cc nL fr lo mc ms) {off : Int} {tgt : Nat} (hd : decode cc pc = .ok (.goto off, 3)) (ht : (pc : Int) + off = (tgt : Int)) (kk : GW G X nL M kc ks tgt ls st) : GW G X nL M kc ks pc ls st := by
  obtain ⟨p, e, R, s, m, args, below, meth, c, Q, A⟩ := X
  obtain ⟨hx, hb, hown, hts, hK, hA, hml, hlocks, hR, hZ⟩ := C
  intro H locs la hP hS hv
  exact lv_goto hx hb hd ht (kk H locs la hP hS hv)
theorem g_ifnull (C : GC G X own cc nL fr lo mc ms) {a : Nat} {off : Int} (hd : decode cc pc = .ok (.ifnull off, 3)) (kk : GW G X nL M kc ks (pc + 3) ls st) : GW G X nL M kc ks pc ls (.ref a :: st) := by
  obtain ⟨p, e, R, s, m, args, below, meth, c, Q, A⟩ := X
  obtain ⟨hx, hb, hown, hts, hK, hA, hml, hlocks, hR, hZ⟩ := C
  intro H locs la hP hS hv
  exact lv_ifnull hx hb hd (kk H locs la hP hS hv)
theorem g_ifnonnull (C : GC G X own cc nL fr lo mc ms) {a : Nat} {off : Int} {tgt : Nat} (hd : decode cc pc = .ok (.ifnonnull off, 3)) (ht : (pc : Int) + off = (tgt : Int)) (kk : GW G X nL M kc ks tgt ls st) : GW G X nL M kc ks pc ls (.ref a :: st) := by
  obtain ⟨p, e, R, s, m, args, below, meth, c, Q, A⟩ := X
  obtain ⟨hx, hb, hown, hts, hK, hA, hml, hlocks, hR, hZ⟩ := C
  intro H locs la hP hS hv
  exact lv_ifnonnull hx hb hd ht (kk H locs la hP hS hv)
theorem g_ifnullN (C : GC G X own cc nL fr lo mc ms) {off : Int} {tgt : Nat} (hd : decode cc pc = .ok (.ifnull off, 3)) (ht : (pc : Int) + off = (tgt : Int)) (kk : GW G X nL M kc ks tgt ls st) : GW G X nL M kc ks pc ls (.null :: st) := by
  obtain ⟨p, e, R, s, m, args, below, meth, c, Q, A⟩ := X
  obtain ⟨hx, hb, hown, hts, hK, hA, hml, hlocks, hR, hZ⟩ := C
  intro H locs la hP hS hv
  exact lv_ifnullN hx hb hd ht (kk H locs la hP hS hv)
theorem g_ifnonnullN (C : GC G X own cc nL fr lo mc ms) {off : Int} (hd : decode cc pc = .ok (.ifnonnull off, 3)) (kk : GW G X nL M kc ks (pc + 3) ls st) : GW G X nL M kc ks pc ls (.null :: st) := by
  obtain ⟨p, e, R, s, m, args, below, meth, c, Q, A⟩ := X
  obtain ⟨hx, hb, hown, hts, hK, hA, hml, hlocks, hR, hZ⟩ := C
  intro H locs la hP hS hv
  exact lv_ifnonnullN hx hb hd (kk H locs la hP hS hv)
theorem g_loc {ls' : List (Nat × Value)} (ks0 : List Nat) (h : fm_sel ls ks0 = some ls') (kk : GW G X nL M kc ks pc ls' st) : GW G X nL M kc ks pc ls st := by
  obtain ⟨p, e, R, s, m, args, below, meth, c, Q, A⟩ := X
  intro H locs la hP hS hv
  exact kk H locs la hP hS (fm_has_sub hv (fm_sel_mem h))
theorem g_wide {k2 s2 : Nat} (h1 : kc ≤ k2) (h2 : ks ≤ s2) (kk : GW G X nL M k2 s2 pc ls st) : GW G X nL M kc ks pc ls st := by
  obtain ⟨p, e, R, s, m, args, below, meth, c, Q, A⟩ := X
  intro H locs la hP hS hv
  exact W.widen h1 h2 (kk H locs la hP hS hv)

/-- a field: the class own names it at place idx of its pool; it is field k of class ci -/
def fm_fld (own : String) (idx ci k : Nat) (Cn : String) (T : u_T) (N : Nat) (ty : Nat → FieldType) : Prop :=
  vwCl[ci]? = some (Cn, T, N) ∧ k < N ∧ (∀ w ∈ u_ws Cn T N, w ∈ fm_tbl) ∧ (∀ k, k < N → parseFieldDescriptor (T k).2.2.1 = some (ty k)) ∧ (∀ a, a < N → ∀ b, b < N → a ≠ b → (T a).2.1 ≠ (T b).2.1) ∧ Cond.fieldLink own idx Cn (T k).2.1 (T k).2.2.1 ∈ fm_tbl ∧ (T k).1 = Cn
/-- a class that own makes objects of -/
def fm_cls (own : String) (idx ci : Nat) (Cn : String) (T : u_T) (N : Nat) (ty : Nat → FieldType) (fs0 : List Value) : Prop :=
  vwCl[ci]? = some (Cn, T, N) ∧ (∀ w ∈ u_ws Cn T N, w ∈ fm_tbl) ∧ (∀ k, k < N → parseFieldDescriptor (T k).2.2.1 = some (ty k)) ∧ Cond.classLink own idx Cn ∈ fm_tbl ∧ Cond.instantiable Cn N ∈ fm_tbl ∧ Cond.initialized Cn ∈ fm_tbl ∧ ∀ j, j < N → defaultValue (ty j) = vp_V fs0 j
def GN (X : fm_X) (nm : String) : Prop := match X with
  | (_, _, _, _, _, _, _, meth, _, _, _) => meth.name = nm
theorem g_getf (C : GC G X own cc nL fr lo mc ms) {idx ci k : Nat} {Cn : String} {T : u_T} {N : Nat} {ty : Nat → FieldType} (F : fm_fld own idx ci k Cn T N ty) (hd : decode cc pc = .ok (.getfield idx, 3)) {a : Nat} {fs : List Value} {v : Value} (hM : M a = some (fm_O ci fs)) (hv0 : fs[k]? = some v) (kk : GW G X nL M kc ks (pc + 3) ls (v :: st)) : GW G X nL M kc ks pc ls (.ref a :: st) := by
  obtain ⟨p, e, R, s, m, args, below, meth, c, Q, A⟩ := X
  obtain ⟨hx, hb, hown, hts, hK, hA, hml, hlocks, hR, hZ⟩ := C
  intro H locs la hP hS hv
  obtain ⟨f1, f2, f3, f4, f5, f6, f7⟩ := F
  obtain ⟨L, f, k0, h1, h2, h3, hm, he, hk⟩ := hP.at hM
  exact va_get (D := G.2.1) hx hb hts f3 hown hK.1 h2 k0 hk f1 k f2 (hts _ f6) (fun x h => by rw [f7] at h; exact h) hv0 hd (kk H locs la hP hS hv)
theorem g_putf (C : GC G X own cc nL fr lo mc ms) {idx ci k : Nat} {Cn : String} {T : u_T} {N : Nat} {ty : Nat → FieldType} (F : fm_fld own idx ci k Cn T N ty) (hfin : (T k).2.2.2 = false) (hd : decode cc pc = .ok (.putfield idx, 3)) {a : Nat} {fs : List Value} {v : Value} (hM : M a = some (fm_O ci fs)) (hn : narrow (ty k) v = v) (hfit : fits (ty k) v = true) (hl : k < fs.length) (kk : GW G X nL (fm_set M a (fm_O ci (fs.set k v))) kc ks (pc + 3) ls st) : GW G X nL M kc ks pc ls (v :: .ref a :: st) := by
  obtain ⟨p, e, R, s, m, args, below, meth, c, Q, A⟩ := X
  obtain ⟨hx, hb, hown, hts, hK, hA, hml, hlocks, hR, hZ⟩ := C
  intro H locs la hP hS hv
  obtain ⟨f1, f2, f3, f4, f5, f6, f7⟩ := F
  obtain ⟨L, f, k0, h1, h2, h3, hm, he, hk⟩ := hP.at hM
  exact va_put (D := G.2.1) hx hb hts f3 ty f4 f5 hown hK.1 h2 h3 hS k0 hk f1 k f2 (hts _ f6) (fun x h => by rw [f7] at h; exact h) hfin (f4 k f2) hn hfit hl hd (fun H1 locs1 q1 q2 q3 => kk H1 locs1 la (fm_P.put h1 h3 hm he hk q1 q2) q3 hv)
theorem g_putF (C : GC G X own cc nL fr lo mc ms) (N0 : GN X "<init>") {idx ci k : Nat} {Cn : String} {T : u_T} {N : Nat} {ty : Nat → FieldType} (F : fm_fld own idx ci k Cn T N ty) (hfin : (T k).2.2.2 = true) (hdecl : Cn = own) (hd : decode cc pc = .ok (.putfield idx, 3)) {a : Nat} {fs : List Value} {v : Value} (hM : M a = some (fm_O ci fs)) (hn : narrow (ty k) v = v) (hfit : fits (ty k) v = true) (hl : k < fs.length) (kk : GW G X nL (fm_set M a (fm_O ci (fs.set k v))) kc ks (pc + 3) ls st) : GW G X nL M kc ks pc ls (v :: .ref a :: st) := by
  obtain ⟨p, e, R, s, m, args, below, meth, c, Q, A⟩ := X
  obtain ⟨hx, hb, hown, hts, hK, hA, hml, hlocks, hR, hZ⟩ := C
  intro H locs la hP hS hv
  obtain ⟨f1, f2, f3, f4, f5, f6, f7⟩ := F
  obtain ⟨L, f, k0, h1, h2, h3, hm, he, hk⟩ := hP.at hM
  exact va_putF (D := G.2.1) hx hb hts f3 ty f4 f5 hown hK.1 h2 h3 hS k0 hk f1 k f2 (hts _ f6) (fun x h => by rw [f7] at h; exact h) hfin N0 (by rw [f7]; exact hdecl) (f4 k f2) hn hfit hl hd (fun H1 locs1 q1 q2 q3 => kk H1 locs1 la (fm_P.put h1 h3 hm he hk q1 q2) q3 hv)
theorem g_iald (C : GC G X own cc nL fr lo mc ms) (hd : decode cc pc = .ok (.iaload, 1)) {a n : Nat} {f : Nat → Int32} {i : Int32} (hM : M a = some (fm_I G n f)) (hin : vp_in i n) (kk : GW G X nL M kc ks (pc + 1) ls (.int (f i.toNatClampNeg) :: st)) : GW G X nL M kc ks pc ls (.int i :: .ref a :: st) := by
  obtain ⟨p, e, R, s, m, args, below, meth, c, Q, A⟩ := X
  obtain ⟨hx, hb, hown, hts, hK, hA, hml, hlocks, hR, hZ⟩ := C
  intro H locs la hP hS hv
  obtain ⟨L, f0, k0, h1, h2, h3, hm, he, hk⟩ := hP.at hM
  exact va_iald hx hb hK.1 h2 k0 0 hk rfl hin hd (kk H locs la hP hS hv)
theorem g_ialdN (C : GC G X own cc nL fr lo mc ms) (hd : decode cc pc = .ok (.iaload, 1)) {a n j : Nat} {f : Nat → Int32} (hM : M a = some (fm_I G n f)) (hj : j < n) (hn : n < 2 ^ 31) (kk : GW G X nL M kc ks (pc + 1) ls (.int (f j) :: st)) : GW G X nL M kc ks pc ls (.int (nI j) :: .ref a :: st) :=
  g_iald C hd hM (vp_in_nI hj hn) (by rw [nI_clamp (Nat.lt_trans hj hn)]; exact kk)
theorem g_lald (C : GC G X own cc nL fr lo mc ms) (hd : decode cc pc = .ok (.laload, 1)) {a n : Nat} {f : Nat → Int64} {i : Int32} (hM : M a = some (fm_L G n f)) (hin : vp_in i n) (kk : GW G X nL M kc ks (pc + 1) ls (.long (f i.toNatClampNeg) :: st)) : GW G X nL M kc ks pc ls (.int i :: .ref a :: st) := by
  obtain ⟨p, e, R, s, m, args, below, meth, c, Q, A⟩ := X
  obtain ⟨hx, hb, hown, hts, hK, hA, hml, hlocks, hR, hZ⟩ := C
  intro H locs la hP hS hv
  obtain ⟨L, f0, k0, h1, h2, h3, hm, he, hk⟩ := hP.at hM
  exact va_lald hx hb hK.1 h2 k0 1 hk rfl hin hd (kk H locs la hP hS hv)
theorem g_laldN (C : GC G X own cc nL fr lo mc ms) (hd : decode cc pc = .ok (.laload, 1)) {a n j : Nat} {f : Nat → Int64} (hM : M a = some (fm_L G n f)) (hj : j < n) (hn : n < 2 ^ 31) (kk : GW G X nL M kc ks (pc + 1) ls (.long (f j) :: st)) : GW G X nL M kc ks pc ls (.int (nI j) :: .ref a :: st) :=
  g_lald C hd hM (vp_in_nI hj hn) (by rw [nI_clamp (Nat.lt_trans hj hn)]; exact kk)
theorem g_aald (C : GC G X own cc nL fr lo mc ms) (hd : decode cc pc = .ok (.aaload, 1)) {a t n : Nat} {Cn : String} {f : Nat → Option Nat} {i : Int32} (hM : M a = some (fm_R G t n f)) (ht : (fm_tys G.2.2)[t]? = some (G.2.2 t, .object Cn)) (hin : vp_in i n) (kk : GW G X nL M kc ks (pc + 1) ls (va_rf (f i.toNatClampNeg) :: st)) : GW G X nL M kc ks pc ls (.int i :: .ref a :: st) := by
  obtain ⟨p, e, R, s, m, args, below, meth, c, Q, A⟩ := X
  obtain ⟨hx, hb, hown, hts, hK, hA, hml, hlocks, hR, hZ⟩ := C
  intro H locs la hP hS hv
  obtain ⟨L, f0, k0, h1, h2, h3, hm, he, hk⟩ := hP.at hM
  exact va_aldq hx hb hK.1 h2 k0 t hk ht hin hd (kk H locs la hP hS hv)
theorem g_aaldN (C : GC G X own cc nL fr lo mc ms) (hd : decode cc pc = .ok (.aaload, 1)) {a t n j b : Nat} {Cn : String} {f : Nat → Option Nat} (hM : M a = some (fm_R G t n f)) (ht : (fm_tys G.2.2)[t]? = some (G.2.2 t, .object Cn)) (hj : j < n) (hn : n < 2 ^ 31) (hf : f j = some b) (kk : GW G X nL M kc ks (pc + 1) ls (.ref b :: st)) : GW G X nL M kc ks pc ls (.int (nI j) :: .ref a :: st) :=
  g_aald C hd hM ht (vp_in_nI hj hn) (by rw [nI_clamp (Nat.lt_trans hj hn), hf]; exact kk)
theorem g_aaldZ (C : GC G X own cc nL fr lo mc ms) (hd : decode cc pc = .ok (.aaload, 1)) {a t n j : Nat} {Cn : String} {f : Nat → Option Nat} (hM : M a = some (fm_R G t n f)) (ht : (fm_tys G.2.2)[t]? = some (G.2.2 t, .object Cn)) (hj : j < n) (hn : n < 2 ^ 31) (hf : f j = none) (kk : GW G X nL M kc ks (pc + 1) ls (.null :: st)) : GW G X nL M kc ks pc ls (.int (nI j) :: .ref a :: st) :=
  g_aald C hd hM ht (vp_in_nI hj hn) (by rw [nI_clamp (Nat.lt_trans hj hn), hf]; exact kk)
theorem g_iast (C : GC G X own cc nL fr lo mc ms) (hd : decode cc pc = .ok (.iastore, 1)) {a n : Nat} {f : Nat → Int32} {i x : Int32} (hM : M a = some (fm_I G n f)) (hin : vp_in i n) (kk : GW G X nL (fm_set M a (fm_I G n (upd f i.toNatClampNeg x))) kc ks (pc + 1) ls st) : GW G X nL M kc ks pc ls (.int x :: .int i :: .ref a :: st) := by
  obtain ⟨p, e, R, s, m, args, below, meth, c, Q, A⟩ := X
  obtain ⟨hx, hb, hown, hts, hK, hA, hml, hlocks, hR, hZ⟩ := C
  intro H locs la hP hS hv
  obtain ⟨L, f0, k0, h1, h2, h3, hm, he, hk⟩ := hP.at hM
  exact va_iast hx hb hK.1 h2 h3 hS k0 0 hk rfl hin hd (fun H1 locs1 q1 q2 q3 => kk H1 locs1 la (fm_P.put h1 h3 hm he hk q1 q2) q3 hv)
theorem g_iastN (C : GC G X own cc nL fr lo mc ms) (hd : decode cc pc = .ok (.iastore, 1)) {a n j : Nat} {f : Nat → Int32} {x : Int32} (hM : M a = some (fm_I G n f)) (hj : j < n) (hn : n < 2 ^ 31) (kk : GW G X nL (fm_set M a (fm_I G n (upd f j x))) kc ks (pc + 1) ls st) : GW G X nL M kc ks pc ls (.int x :: .int (nI j) :: .ref a :: st) :=
  g_iast C hd hM (vp_in_nI hj hn) (by rw [nI_clamp (Nat.lt_trans hj hn)]; exact kk)
theorem g_last (C : GC G X own cc nL fr lo mc ms) (hd : decode cc pc = .ok (.lastore, 1)) {a n : Nat} {f : Nat → Int64} {i : Int32} {x : Int64} (hM : M a = some (fm_L G n f)) (hin : vp_in i n) (kk : GW G X nL (fm_set M a (fm_L G n (vp_updL f i.toNatClampNeg x))) kc ks (pc + 1) ls st) : GW G X nL M kc ks pc ls (.long x :: .int i :: .ref a :: st) := by
  obtain ⟨p, e, R, s, m, args, below, meth, c, Q, A⟩ := X
  obtain ⟨hx, hb, hown, hts, hK, hA, hml, hlocks, hR, hZ⟩ := C
  intro H locs la hP hS hv
  obtain ⟨L, f0, k0, h1, h2, h3, hm, he, hk⟩ := hP.at hM
  exact va_last hx hb hK.1 h2 h3 hS k0 1 hk rfl hin hd (fun H1 locs1 q1 q2 q3 => kk H1 locs1 la (fm_P.put h1 h3 hm he hk q1 q2) q3 hv)
theorem g_lastN (C : GC G X own cc nL fr lo mc ms) (hd : decode cc pc = .ok (.lastore, 1)) {a n j : Nat} {f : Nat → Int64} {x : Int64} (hM : M a = some (fm_L G n f)) (hj : j < n) (hn : n < 2 ^ 31) (kk : GW G X nL (fm_set M a (fm_L G n (vp_updL f j x))) kc ks (pc + 1) ls st) : GW G X nL M kc ks pc ls (.long x :: .int (nI j) :: .ref a :: st) :=
  g_last C hd hM (vp_in_nI hj hn) (by rw [nI_clamp (Nat.lt_trans hj hn)]; exact kk)
theorem g_aast (C : GC G X own cc nL fr lo mc ms) (hd : decode cc pc = .ok (.aastore, 1)) {a t n j b ci : Nat} {r : vw_C} {vs : List Value} {f : Nat → Option Nat} (hM : M a = some (fm_R G t n f)) (ht : (fm_tys G.2.2)[t]? = some (G.2.2 t, .object r.1)) (hb0 : M b = some (fm_O ci vs)) (hci : vwCl[ci]? = some r) (hj : j < n) (hn : n < 2 ^ 31) (kk : GW G X nL (fm_set M a (fm_R G t n (va_up f j (some b)))) kc ks (pc + 1) ls st) : GW G X nL M kc ks pc ls (.ref b :: .int (nI j) :: .ref a :: st) := by
  obtain ⟨p, e, R, s, m, args, below, meth, c, Q, A⟩ := X
  obtain ⟨hx, hb, hown, hts, hK, hA, hml, hlocks, hR, hZ⟩ := C
  intro H locs la hP hS hv
  obtain ⟨L, f0, k0, h1, h2, h3, hm, he, hk⟩ := hP.at hM
  have hmb : b ∈ L ∧ f0 b = fm_O ci vs := by
    have h5 := h1 b
    rw [hb0] at h5
    by_cases hz : b ∈ L
    · rw [if_pos hz] at h5
      exact ⟨hz, (Option.some.inj h5).symm⟩
    · rw [if_neg hz] at h5; cases h5
  obtain ⟨k1, hk1⟩ := va_pl_get (X := []) (f := f0) hmb.1
  rw [hmb.2] at hk1
  have hcl : (nI j).toNatClampNeg = j := nI_clamp (Nat.lt_trans hj hn)
  refine va_astq hx hb hK.1 h2 h3 hS k0 t k1 ci hk ht hk1 hci (vp_in_nI hj hn) hd (fun H1 locs1 q1 q2 q3 => ?_)
  rw [hcl] at q1 q2
  exact kk H1 locs1 la (fm_P.put h1 h3 hm he hk q1 q2) q3 hv
theorem g_alen (C : GC G X own cc nL fr lo mc ms) (hd : decode cc pc = .ok (.arraylength, 1)) {a t : Nat} {x : vp_A} {ty : FieldType} (hM : M a = some (.inl (G.2.2 t, x))) (ht : (fm_tys G.2.2)[t]? = some (G.2.2 t, ty)) (kk : GW G X nL M kc ks (pc + 1) ls (.int (nI x.1) :: st)) : GW G X nL M kc ks pc ls (.ref a :: st) := by
  obtain ⟨p, e, R, s, m, args, below, meth, c, Q, A⟩ := X
  obtain ⟨hx, hb, hown, hts, hK, hA, hml, hlocks, hR, hZ⟩ := C
  intro H locs la hP hS hv
  obtain ⟨L, f0, k0, h1, h2, h3, hm, he, hk⟩ := hP.at hM
  exact va_alen hx hb hK.1 h2 k0 t hk ht rfl hd (kk H locs la hP hS hv)
theorem g_new (C : GC G X own cc nL fr lo mc ms) {idx ci N : Nat} {Cn : String} {T : u_T} {ty : Nat → FieldType} {fs0 : List Value} (F : fm_cls own idx ci Cn T N ty fs0) (hd : decode cc pc = .ok (.new idx, 3)) (hc : kc + 1 ≤ mc) (hs : ks + N ≤ ms) (kk : ∀ q : Nat, M q = none → GW G X nL (fm_set M q (fm_O ci fs0)) (kc + 1) (ks + N) (pc + 3) ls (.ref q :: st)) : GW G X nL M kc ks pc ls st := by
  obtain ⟨p, e, R, s, m, args, below, meth, c, Q, A⟩ := X
  obtain ⟨hx, hb, hown, hts, hK, hA, hml, hlocks, hR, hZ⟩ := C
  intro H locs la hP hS hv
  obtain ⟨f1, f2, f3, f4, f5, f6, f7⟩ := F
  obtain ⟨L, f, h1, h2, h3⟩ := hP
  refine va_new (D := G.2.1) (ci := ci) hx hb hts f2 ty f3 hown (hts _ f4) (hts _ f5) (hts _ f6) hK.1 h2 h3 hS hA f1 f7 (by rw [hR.2.2.1]; exact hc) (by rw [hR.2.2.2]; exact hs) hd (fun q H1 q1 q2 q3 => ?_)
  obtain ⟨n1, n2⟩ := fm_P.new h1 q1 q2
  exact kk q n1 H1 locs la n2 q3 hv
theorem g_newI (C : GC G X own cc nL fr lo mc ms) {at0 : ArrayType} (hat : newarray.typeOf at0 = .int) (hw : Cond.arrayClass .int ∈ fm_tbl) (hd : decode cc pc = .ok (.newarray at0, 2)) {N : Nat} (hN : N < 2 ^ 27) (hc : kc + 1 ≤ mc) (hs : ks + N ≤ ms) (kk : ∀ q : Nat, M q = none → GW G X nL (fm_set M q (fm_I G N (fun _ => 0))) (kc + 1) (ks + N) (pc + 2) ls (.ref q :: st)) : GW G X nL M kc ks pc ls (.int (nI N) :: st) := by
  obtain ⟨p, e, R, s, m, args, below, meth, c, Q, A⟩ := X
  obtain ⟨hx, hb, hown, hts, hK, hA, hml, hlocks, hR, hZ⟩ := C
  intro H locs la hP hS hv
  obtain ⟨L, f, h1, h2, h3⟩ := hP
  have hN2 : N < 2 ^ 31 := Nat.lt_trans hN (by decide)
  refine va_newa (a0 := (N, .inl (fun _ => 0))) (N' := N) hx hb (by rw [hat]; exact hts _ hw) hat hK.1 h2 h3 hS hA (fun cA => rfl) (nI_pos hN2) (nI_clamp hN2) (by show N * 4 ≤ 536870912; omega) (by rw [hR.2.2.1]; exact hc) (by rw [hR.2.2.2]; exact hs) hd (fun q cA H1 q0 q1 q2 q3 => ?_)
  have e1 := (q0.2 (fm_tys G.2.2).length (cA, .int) (by simp)).2
  have e2 := (hK.1.2 0 (G.2.2 0, .int) rfl).2
  have e3 : cA = G.2.2 0 := Option.some.inj ((show s.vm.findClass _ = some cA from e1).symm.trans e2)
  subst e3
  obtain ⟨n1, n2⟩ := fm_P.new h1 q1 q2
  exact kk q n1 H1 locs la n2 q3 hv
theorem g_newL (C : GC G X own cc nL fr lo mc ms) {at0 : ArrayType} (hat : newarray.typeOf at0 = .long) (hw : Cond.arrayClass .long ∈ fm_tbl) (hd : decode cc pc = .ok (.newarray at0, 2)) {N : Nat} (hN : N < 2 ^ 26) (hc : kc + 1 ≤ mc) (hs : ks + N ≤ ms) (kk : ∀ q : Nat, M q = none → GW G X nL (fm_set M q (fm_L G N (fun _ => 0))) (kc + 1) (ks + N) (pc + 2) ls (.ref q :: st)) : GW G X nL M kc ks pc ls (.int (nI N) :: st) := by
  obtain ⟨p, e, R, s, m, args, below, meth, c, Q, A⟩ := X
  obtain ⟨hx, hb, hown, hts, hK, hA, hml, hlocks, hR, hZ⟩ := C
  intro H locs la hP hS hv
  obtain ⟨L, f, h1, h2, h3⟩ := hP
  have hN2 : N < 2 ^ 31 := Nat.lt_trans hN (by decide)
  refine va_newa (a0 := (N, .inr (.inl (fun _ => 0)))) (N' := N) hx hb (by rw [hat]; exact hts _ hw) hat hK.1 h2 h3 hS hA (fun cA => rfl) (nI_pos hN2) (nI_clamp hN2) (by show N * 8 ≤ 536870912; omega) (by rw [hR.2.2.1]; exact hc) (by rw [hR.2.2.2]; exact hs) hd (fun q cA H1 q0 q1 q2 q3 => ?_)
  have e1 := (q0.2 (fm_tys G.2.2).length (cA, .long) (by simp)).2
  have e2 := (hK.1.2 1 (G.2.2 1, .long) rfl).2
  have e3 : cA = G.2.2 1 := Option.some.inj ((show s.vm.findClass _ = some cA from e1).symm.trans e2)
  subst e3
  obtain ⟨n1, n2⟩ := fm_P.new h1 q1 q2
  exact kk q n1 H1 locs la n2 q3 hv
theorem g_newR (C : GC G X own cc nL fr lo mc ms) {idx t : Nat} {Cn : String} (hlk : Cond.classLink own idx Cn ∈ fm_tbl) (hrf : Cn ∈ fm_refs) (ht : (fm_tys G.2.2)[t]? = some (G.2.2 t, .object Cn)) (hd : decode cc pc = .ok (.anewarray idx, 3)) {N : Nat} (hN : N < 2 ^ 27) (hc : kc + 1 ≤ mc) (hs : ks + N ≤ ms) (kk : ∀ q : Nat, M q = none → GW G X nL (fm_set M q (fm_R G t N (fun _ => none))) (kc + 1) (ks + N) (pc + 3) ls (.ref q :: st)) : GW G X nL M kc ks pc ls (.int (nI N) :: st) := by
  obtain ⟨p, e, R, s, m, args, below, meth, c, Q, A⟩ := X
  obtain ⟨hx, hb, hown, hts, hK, hA, hml, hlocks, hR, hZ⟩ := C
  intro H locs la hP hS hv
  obtain ⟨L, f, h1, h2, h3⟩ := hP
  have hN2 : N < 2 ^ 31 := Nat.lt_trans hN (by decide)
  refine va_newq (N' := N) hx hb hown (hts _ hlk) (hK.2.2 _ hrf) hK.1 h2 h3 hS hA (nI_pos hN2) (nI_clamp hN2) (by omega) (by rw [hR.2.2.1]; exact hc) (by rw [hR.2.2.2]; exact hs) hd (fun q cA H1 q0 q1 q2 q3 => ?_)
  obtain ⟨kA, comp, -, -, -, e1⟩ := (q0.2 (fm_tys G.2.2).length (cA, .object Cn) (by simp)).2
  obtain ⟨kA', comp', -, -, -, e2⟩ := (hK.1.2 t (G.2.2 t, .object Cn) ht).2
  have e3 : cA = G.2.2 t := Option.some.inj (e1.symm.trans e2)
  subst e3
  obtain ⟨n1, n2⟩ := fm_P.new h1 q1 q2
  exact kk q n1 H1 locs la n2 q3 hv

theorem fm_in {w : Cond} (h1 : w ∈ lw_tbl) (h2 : goodWord w = true) : w ∈ fm_tbl := List.mem_filter.mpr ⟨h1, h2⟩
theorem fm_good {ws : List Cond} (h : ∀ w ∈ ws, w ∈ fm_tbl) : GoodIn fm_tbl ws := fun w hw => ⟨h w hw, good_of_word (List.mem_filter.mp (h w hw)).2⟩
/-- a method's start: the heap holds M -/
def fm_Pre (G : fm_G) (M : fm_M) (sz : Nat) (U : State) : Prop := U.heap.size = sz ∧ fm_P G.2.1 (fm_A M sz) M U.heap ∧ fm_K G U ∧ fm_Z (fm_A M sz) U U.heap
/-- .. and its end: it answers v, the heap holds M1, and 'post v M1' -/
def fm_Qc (G : fm_G) (M : fm_M) (sz : Nat) (post : Option Value → fm_M → Prop) : Array Value → State → Outcome → State → Prop := fun _ st oc t => (∃ (v : Option Value) (M1 : fm_M), oc = .returned v ∧ post v M1 ∧ fm_P G.2.1 (fm_A M sz) M1 t.heap) ∧ va_F (fm_A M sz) st t
def fm_room (fr lo mc ms : Nat) : Room := { frames := fr, cells := mc, slots := ms, locals := lo }
/-- THE CONTRACT of a method that returns -/
def fm_Ct (G : fm_G) (y : MethodName) (cy : ByteArray) (maxL : Nat) (ret : Option FieldType) (fr lo mc ms : Nat) (av : List Value) (M : fm_M) (post : Option Value → fm_M → Prop) : Prop :=
  ∀ sz : Nat, Met G.1 y (Cond.code y cy maxL ret :: fm_tbl) (fm_room fr lo mc ms) (va_Pc av (fm_Pre G M sz)) (fm_Qc G M sz post) mc ms (fm_A M sz)
theorem fm_K.warm {G : fm_G} {s U : State} (hW : s.WarmedH U.vm) (h : fm_K G s) : fm_K G U := ⟨va_K.moved hW.alike h.1, fun q hq => va_Nw.warmM hW (h.2.1 q hq), fun C hC => va_AO.moved hW.alike (h.2.2 C hC)⟩
theorem fm_blind {G : fm_G} {M : fm_M} {sz : Nat} {av : List Value} : FrameBlind (va_Pc av (fm_Pre G M sz)) := by
  intro a U g mk h
  obtain ⟨h0, h1, h2, ⟨h3, h4, h5⟩, h6⟩ := h
  exact ⟨h0, h1, h2, ⟨va_K.moved (u := U) (U := U.calling g mk a) (Vm.Alike.refl U.vm) h3, fun q hq => va_Nw.same (u := U) (U := U.calling g mk a) rfl rfl (h4 q hq), fun C hC => va_AO.moved (u := U) (U := U.calling g mk a) (Vm.Alike.refl U.vm) (h5 C hC)⟩, fun q hq => vx_Zq.moved (u := U) (U := U.calling g mk a) (Vm.Alike.refl U.vm) (h6 q hq)⟩
theorem fm_sub {G : fm_G} {s : State} {A : Nat → Prop} {M : fm_M} {H : Heap} {locs : List Loc} (hP : fm_P G.2.1 A M H) (hS : va_S A s.heap H locs) (hA : ∀ q : Nat, s.heap.size ≤ q → A q) : ∀ q : Nat, fm_A M H.size q → A q := by
  intro q h
  rcases h with ⟨e, h⟩ | h
  · exact hP.mem h
  · exact hA q (Nat.le_trans hS.1 h)
theorem fm_pre {G : fm_G} {s U : State} {A : Nat → Prop} {M : fm_M} {H : Heap} {locs : List Loc} (hP : fm_P G.2.1 A M H) (hS : va_S A s.heap H locs) (hA : ∀ q : Nat, s.heap.size ≤ q → A q) (hK : fm_K G s) (hZ : fm_Z A s s.heap) (hU : U.heap = H) (hW : s.WarmedH U.vm) : fm_Pre G M H.size U := by
  refine ⟨by rw [hU], ?_, hK.warm hW, ?_⟩
  · rw [hU]
    exact hP.weak (fun a e h => Or.inl ⟨e, h⟩)
  · rw [hU]
    intro q hq
    exact vx_Zq.moved hW.alike (vx_Zq.narrow (vx_Zq.kept (hZ q hq) (fun a h1 h2 => hS.2.1 a h1 h2)) (fm_sub hP hS hA))
theorem fm_go {p : Program} {e : Env} {R : Room} {s : State} {m : MethodId} {args : Array Value} {below : List Frame} {meth : Method} {c : Code} {H : Heap} {locs : List Loc} {cells slots mc' ms' pc' : Nat} {Q : State → Prop} {A : Nat → Prop} {la : Array Slot} {st0 rest : List Value} {a : Array Value} {post : Option Value → fm_M → Prop}
    (hr : va_Run p G.1 e R s m args below meth c H locs cells slots mc' ms' (F0 m pc' la st0) rest (fm_Qc G M H.size post a) (fm_A M H.size)) (hS : va_S A s.heap H locs) (hsub : ∀ q : Nat, fm_A M H.size q → A q)
    (kk : ∀ (v : Option Value) (M1 : fm_M) (H1 : Heap) (locs1 : List Loc), post v M1 → fm_P G.2.1 A M1 H1 → va_S A s.heap H1 locs1 → W p G.1 e R s m args below meth c H1 locs1 (cells + mc') (slots + ms') Q (F0 m (pc' + 3) la (v.toList ++ rest))) : W p G.1 e R s m args below meth c H locs cells slots Q (F0 m pc' la st0) := by
  intro T hT X
  obtain ⟨v, st₀, t, T', L, h0, X', hL, e1, e2, ⟨⟨v', M1, hv, hp, hP1⟩, hz, hk⟩, st⟩ := hr T hT X
  cases hv
  rw [h0] at hz hk
  obtain ⟨t2, a1, b1⟩ := kk v M1 T'.heap (locs ++ L) hp (by rw [e1]; exact hP1.weak (fun a e h => hsub a (hP1.mem h)))
    ⟨Nat.le_trans hS.1 (by rw [e1]; exact hz), fun q h1 h2 => by rw [e1, hk q (Nat.lt_of_lt_of_le h1 hS.1) (fun z => h2 (hsub q z))]; exact hS.2.1 q h1 h2, fun q hq => by
      rcases List.mem_append.mp hq with h | h
      · exact hS.2.2 q h
      · exact hsub _ (hL q h)⟩ T' rfl X'
  exact ⟨t2, st t2 a1, b1⟩
/-- the words of a call -/
def fm_wd (y : MethodName) (n : Nat) : Prop := y.cls ≠ "java/lang/invoke/MethodHandle" ∧ y.cls ≠ "java/lang/invoke/VarHandle" ∧ (parseMethodDescriptor y.desc).map (fun d => d.parameters.length) = some n
def fm_wV (own : String) (idx : Nat) (y : MethodName) (cy : ByteArray) (maxL : Nat) (ret : Option FieldType) (n : Nat) : Prop :=
  (∀ w ∈ ([.methodLink own idx y, .instanceMethod y, .selects y.cls y y, .initialized y.cls, .code y cy maxL ret] : List Cond), w ∈ fm_tbl) ∧ fm_wd y n
def fm_wS (own : String) (idx : Nat) (y : MethodName) (cy : ByteArray) (maxL : Nat) (ret : Option FieldType) (n : Nat) : Prop :=
  (∀ w ∈ ([.methodLink own idx y, .static y, .initialized y.cls, .code y cy maxL ret] : List Cond), w ∈ fm_tbl) ∧ fm_wd y n
def fm_wI (own : String) (idx : Nat) (y : MethodName) (cy : ByteArray) (maxL : Nat) (n : Nat) : Prop :=
  (∀ w ∈ ([.methodLink own idx y, .instanceMethod y, .initialized y.cls, .code y cy maxL none] : List Cond), w ∈ fm_tbl) ∧ y.name = "<init>" ∧ fm_wd y n
def fm_wN (own : String) (idx : Nat) (y : MethodName) (host : String) (cy : ByteArray) (maxL : Nat) (n : Nat) : Prop :=
  (∀ w ∈ ([.instanceMethod y, .initialized y.cls, .code y cy maxL none] : List Cond), w ∈ fm_tbl) ∧ (own, idx, y, host) ∈ fm_nest ∧ y.name = "<init>" ∧ fm_wd y n
theorem g_callV (C : GC G X own cc nL fr lo mc ms) {y : MethodName} {cy : ByteArray} {maxL fr' lo' mc' ms' idx n ci b N : Nat} {ret : Option FieldType} {As rest : List Value} {post : Option Value → fm_M → Prop} {fs : List Value} {T : u_T} (hd : decode cc pc = .ok (.invokevirtual idx, 3)) (w : fm_wV own idx y cy maxL ret n) (hci : vwCl[ci]? = some (y.cls, T, N)) (K : fm_Ct G y cy maxL ret fr' lo' mc' ms' (.ref b :: As) M post) (hM : M b = some (fm_O ci fs)) (hn : As.length = n) (hst : st = As.reverse ++ .ref b :: rest) (hcat : (rest.map fun v => v.category).sum ≤ 8) (hfr : fr' + 1 ≤ fr) (hlo : 8 + (maxL + 11) + lo' ≤ lo) (hc : kc + mc' ≤ mc) (hs : ks + ms' ≤ ms)
    (kk : ∀ (v : Option Value) (M1 : fm_M), post v M1 → GW G X nL M1 (kc + mc') (ks + ms') (pc + 3) ls (v.toList ++ rest)) : GW G X nL M kc ks pc ls st := by
  obtain ⟨p, e, R, s, m, args, below, meth, c, Q, A⟩ := X
  obtain ⟨hx, hb, hown, hts, hK, hA, hml, hlocks, hR, hZ⟩ := C
  intro H locs la hP hS hv
  subst hst
  obtain ⟨L, f, k0, h1, h2, h3, hm, he, hk⟩ := hP.at hM
  refine fm_go (va_runV (As := As) (rest := rest) ⟨hx, hb, hml, hown, hts⟩ (K H.size) (cwV n hts (fm_good (fun w0 h0 => ?_)) rfl rfl rfl ⟨rfl, w.2⟩ ⟨by rw [hR.1]; exact hfr, by rw [hR.2.1]; exact hlo⟩) ⟨fm_blind, va_recv hK.1 h2 (ci := ci) (q0 := k0) hci hk, fun U hU hW => ⟨rfl, fm_pre hP hS hA hK hZ hU hW⟩⟩ rfl hn hv.1 rfl (lv_room hcat) hd ⟨by rw [hR.2.2.1]; exact hc, by rw [hR.2.2.2]; exact hs⟩) hS (fm_sub hP hS hA) (fun v M1 H1 locs1 hp hP1 hS1 => kk v M1 hp H1 locs1 la hP1 hS1 hv)
  rcases List.mem_append.mp h0 with h0 | h0
  · exact w.1 w0 (List.mem_append_left [Cond.code y cy maxL ret] h0)
  · rcases List.mem_cons.mp h0 with rfl | h0
    · exact w.1 _ (List.mem_append_right ([.methodLink own idx y, .instanceMethod y, .selects y.cls y y, .initialized y.cls] : List Cond) (List.mem_singleton.mpr rfl))
    · exact h0
theorem g_callS (C : GC G X own cc nL fr lo mc ms) {y : MethodName} {cy : ByteArray} {maxL fr' lo' mc' ms' idx n : Nat} {ret : Option FieldType} {As rest : List Value} {post : Option Value → fm_M → Prop} (hd : decode cc pc = .ok (.invokestatic idx, 3)) (w : fm_wS own idx y cy maxL ret n) (K : fm_Ct G y cy maxL ret fr' lo' mc' ms' As M post) (hn : As.length = n) (hst : st = As.reverse ++ rest) (hcat : (rest.map fun v => v.category).sum ≤ 8) (hfr : fr' + 1 ≤ fr) (hlo : 8 + (maxL + 11) + lo' ≤ lo) (hc : kc + mc' ≤ mc) (hs : ks + ms' ≤ ms)
    (kk : ∀ (v : Option Value) (M1 : fm_M), post v M1 → GW G X nL M1 (kc + mc') (ks + ms') (pc + 3) ls (v.toList ++ rest)) : GW G X nL M kc ks pc ls st := by
  obtain ⟨p, e, R, s, m, args, below, meth, c, Q, A⟩ := X
  obtain ⟨hx, hb, hown, hts, hK, hA, hml, hlocks, hR, hZ⟩ := C
  intro H locs la hP hS hv
  subst hst
  refine fm_go (va_runS (As := As) (rest := rest) ⟨hx, hb, hml, hown, hts⟩ (K H.size) (va_cwS n hts (fm_good (fun w0 h0 => ?_)) rfl rfl rfl w.2 ⟨by rw [hR.1]; exact hfr, by rw [hR.2.1]; exact hlo⟩) ⟨fm_blind, fun U hU hW => ⟨rfl, fm_pre hP hS hA hK hZ hU hW⟩⟩ rfl hn hv.1 rfl (lv_room hcat) hd ⟨by rw [hR.2.2.1]; exact hc, by rw [hR.2.2.2]; exact hs⟩) hS (fm_sub hP hS hA) (fun v M1 H1 locs1 hp hP1 hS1 => kk v M1 hp H1 locs1 la hP1 hS1 hv)
  rcases List.mem_append.mp h0 with h0 | h0
  · exact w.1 w0 (List.mem_append_left [Cond.code y cy maxL ret] h0)
  · rcases List.mem_cons.mp h0 with rfl | h0
    · exact w.1 _ (List.mem_append_right ([.methodLink own idx y, .static y, .initialized y.cls] : List Cond) (List.mem_singleton.mpr rfl))
    · exact h0
theorem g_callI (C : GC G X own cc nL fr lo mc ms) {y : MethodName} {cy : ByteArray} {maxL fr' lo' mc' ms' idx n b : Nat} {As rest : List Value} {post : Option Value → fm_M → Prop} (hd : decode cc pc = .ok (.invokespecial idx, 3)) (w : fm_wI own idx y cy maxL n) (K : fm_Ct G y cy maxL none fr' lo' mc' ms' (.ref b :: As) M post) (hn : As.length = n) (hst : st = As.reverse ++ .ref b :: rest) (hcat : (rest.map fun v => v.category).sum ≤ 8) (hfr : fr' + 1 ≤ fr) (hlo : 8 + (maxL + 11) + lo' ≤ lo) (hc : kc + mc' ≤ mc) (hs : ks + ms' ≤ ms)
    (kk : ∀ (v : Option Value) (M1 : fm_M), post v M1 → GW G X nL M1 (kc + mc') (ks + ms') (pc + 3) ls (v.toList ++ rest)) : GW G X nL M kc ks pc ls st := by
  obtain ⟨p, e, R, s, m, args, below, meth, c, Q, A⟩ := X
  obtain ⟨hx, hb, hown, hts, hK, hA, hml, hlocks, hR, hZ⟩ := C
  intro H locs la hP hS hv
  subst hst
  refine fm_go (va_runI (As := As) (rest := rest) ⟨hx, hb, hml, hown, hts⟩ (K H.size) (cwI n hts (fm_good (fun w0 h0 => ?_)) rfl rfl rfl (hts _ (w.1 _ (by simp))) (hts _ (w.1 _ (by simp))) (hts _ (w.1 _ (by simp))) w.2.1 w.2.2 ⟨by rw [hR.1]; exact hfr, by rw [hR.2.1]; exact hlo⟩) ⟨fm_blind, fun U hU hW => ⟨rfl, fm_pre hP hS hA hK hZ hU hW⟩⟩ rfl hn hv.1 rfl (lv_room hcat) hd ⟨by rw [hR.2.2.1]; exact hc, by rw [hR.2.2.2]; exact hs⟩) hS (fm_sub hP hS hA) (fun v M1 H1 locs1 hp hP1 hS1 => kk v M1 hp H1 locs1 la hP1 hS1 hv)
  rcases List.mem_cons.mp h0 with rfl | h0
  · exact w.1 _ (by simp)
  · exact h0
theorem g_callN (C : GC G X own cc nL fr lo mc ms) {y : MethodName} {host : String} {cy : ByteArray} {maxL fr' lo' mc' ms' idx n b : Nat} {As rest : List Value} {post : Option Value → fm_M → Prop} (hd : decode cc pc = .ok (.invokespecial idx, 3)) (w : fm_wN own idx y host cy maxL n) (K : fm_Ct G y cy maxL none fr' lo' mc' ms' (.ref b :: As) M post) (hn : As.length = n) (hst : st = As.reverse ++ .ref b :: rest) (hcat : (rest.map fun v => v.category).sum ≤ 8) (hfr : fr' + 1 ≤ fr) (hlo : 8 + (maxL + 11) + lo' ≤ lo) (hc : kc + mc' ≤ mc) (hs : ks + ms' ≤ ms)
    (kk : ∀ (v : Option Value) (M1 : fm_M), post v M1 → GW G X nL M1 (kc + mc') (ks + ms') (pc + 3) ls (v.toList ++ rest)) : GW G X nL M kc ks pc ls st := by
  obtain ⟨p, e, R, s, m, args, below, meth, c, Q, A⟩ := X
  obtain ⟨hx, hb, hown, hts, hK, hA, hml, hlocks, hR, hZ⟩ := C
  intro H locs la hP hS hv
  subst hst
  refine fm_go (va_runIN (As := As) (rest := rest) ⟨hx, hb, hml, hown, hts⟩ (K H.size) ⟨va_cnB n hts (fm_good (fun w0 h0 => ?_)) rfl rfl rfl (hK.2.1 _ w.2.1) (hts _ (w.1 _ (by simp))) w.2.2.2 ⟨by rw [hR.1]; exact hfr, by rw [hR.2.1]; exact hlo⟩, w.2.2.1, hts _ (w.1 _ (by simp))⟩ ⟨fm_blind, fun U hU hW => ⟨rfl, fm_pre hP hS hA hK hZ hU hW⟩⟩ rfl hn hv.1 rfl (lv_room hcat) hd ⟨by rw [hR.2.2.1]; exact hc, by rw [hR.2.2.2]; exact hs⟩) hS (fm_sub hP hS hA) (fun v M1 H1 locs1 hp hP1 hS1 => kk v M1 hp H1 locs1 la hP1 hS1 hv)
  rcases List.mem_cons.mp h0 with rfl | h0
  · exact w.1 _ (by simp)
  · exact h0
/-- Object's constructor -/
theorem g_objI (C : GC G X own cc nL fr lo mc ms) {idx b : Nat} (hd : decode cc pc = .ok (.invokespecial idx, 3)) (w : ∀ w ∈ ([.methodLink own idx objectInit, .instanceMethod objectInit, .code objectInit ⟨#[0xb1]⟩ 1 none] : List Cond), w ∈ fm_tbl) (hfr : 1 ≤ fr) (hlo : (st.map fun v => v.category).sum + 12 ≤ lo) (kk : GW G X nL M kc ks (pc + 3) ls st) : GW G X nL M kc ks pc ls (.ref b :: st) := by
  obtain ⟨p, e, R, s, m, args, below, meth, c, Q, A⟩ := X
  obtain ⟨hx, hb, hown, hts, hK, hA, hml, hlocks, hR, hZ⟩ := C
  intro H locs la hP hS hv
  exact W.objInit hx hb hown (hts _ (w _ (by simp))) (hts _ (w _ (by simp))) (hts _ (w _ (by simp))) rfl (by rw [hml]; exact hv.1) rfl hd (by rw [hR.1]; exact hfr) (by rw [hR.2.1]; show 2 * 0 + _ + 12 ≤ lo; omega) (kk H locs la hP hS hv)
/-- how a method ends -/
def fm_ret (cy : ByteArray) (pc : Nat) (ret : Option FieldType) (v : Option Value) : Prop :=
  (ret = none ∧ v = none ∧ decode cy pc = .ok (.return_, 1)) ∨ (∃ (x : Int32) (ty : FieldType), ret = some ty ∧ v = some (.int x) ∧ narrow ty (.int x) = .int x ∧ decode cy pc = .ok (.ireturn, 1)) ∨ (∃ x : Int64, ret = some .long ∧ v = some (.long x) ∧ decode cy pc = .ok (.lreturn, 1)) ∨ (∃ (a : Nat) (n : String), ret = some (.object n) ∧ v = some (.ref a) ∧ decode cy pc = .ok (.areturn, 1))
theorem fm_retV {cy : ByteArray} {pc : Nat} (h : decode cy pc = .ok (.return_, 1)) : fm_ret cy pc none none := Or.inl ⟨rfl, rfl, h⟩
theorem fm_retI {cy : ByteArray} {pc : Nat} {x : Int32} (h : decode cy pc = .ok (.ireturn, 1)) : fm_ret cy pc (some .int) (some (.int x)) := Or.inr (Or.inl ⟨x, .int, rfl, rfl, rfl, h⟩)
theorem fm_retZ {cy : ByteArray} {pc : Nat} {x : Int32} (hx : x = 0 ∨ x = 1) (h : decode cy pc = .ok (.ireturn, 1)) : fm_ret cy pc (some .boolean) (some (.int x)) := Or.inr (Or.inl ⟨x, .boolean, rfl, rfl, by rcases hx with rfl | rfl <;> rfl, h⟩)
theorem fm_retL {cy : ByteArray} {pc : Nat} {x : Int64} (h : decode cy pc = .ok (.lreturn, 1)) : fm_ret cy pc (some .long) (some (.long x)) := Or.inr (Or.inr (Or.inl ⟨x, rfl, rfl, h⟩))
theorem fm_retA {cy : ByteArray} {pc a : Nat} {n : String} (h : decode cy pc = .ok (.areturn, 1)) : fm_ret cy pc (some (.object n)) (some (.ref a)) := Or.inr (Or.inr (Or.inr ⟨a, n, rfl, rfl, h⟩))
/-- THE HEAD of a method that returns: walk it from its first instruction; 'ret' ends the walk -/
theorem fm_head {G : fm_G} {y : MethodName} {cy : ByteArray} {maxL fr lo mc ms : Nat} {ret : Option FieldType} {av : List Value} {M : fm_M} {post : Option Value → fm_M → Prop} {ls0 : List (Nat × Value)} (hy : plainName y.cls = true) (hlen : (lg_sl av).length ≤ maxL) (hls : lv_args 0 av = ls0)
    (body : ∀ X : fm_X, GC G X y.cls cy maxL fr lo mc ms → GN X y.name → (∀ (v : Option Value) (M1 : fm_M) (k n pc : Nat) (ls : List (Nat × Value)), fm_ret cy pc ret v → post v M1 → k ≤ mc → n ≤ ms → GW G X maxL M1 k n pc ls v.toList) → GW G X maxL M 0 0 0 ls0 []) : fm_Ct G y cy maxL ret fr lo mc ms av M post := by
  intro sz
  refine Met.ofW (cc := cy) (maxL := maxL) (ret := ret) hy rfl ?_
  intro p e s m args below meth c s₁ B hml hv
  obtain ⟨rfl, hsz, hP, hK, hZ⟩ := hv
  have hts0 := atoms_spec (ws := Cond.code y cy maxL ret :: fm_tbl) B.pre
  have hA : ∀ q : Nat, s.heap.size ≤ q → fm_A M sz q := fun q h => Or.inr (by rw [← hsz]; exact h)
  have hlocks := B.notSynchronized
  have hx := B.exec
  have hb := B.bytes
  have hr := B.returns
  have b0 := body (p, e, (headSpec (Cond.code y cy maxL ret :: fm_tbl) (fm_room fr lo mc ms)).room, s, m, av.toArray, below, meth, c, MQ below (fm_Qc G M sz post) av.toArray s mc ms (fm_A M sz), fm_A M sz)
    ⟨hx, hb, findClass_of_methodNamed B.named, fun w hw => hts0 w (List.mem_cons_of_mem _ hw), hK, hA, hml, hlocks, ⟨rfl, rfl, rfl, rfl⟩, hZ⟩ (name_of_methodNamed B.named B.method).1 ?_
  · rw [lg_entry_eq]
    exact b0 s.heap [] _ hP va_S.rf (by rw [← hls]; exact lv_entry av hlen)
  · intro v M1 k n pc ls hret hpost hk hn H locs la hP1 hS hv
    have hq : ∀ t : State, t.heap = H → s.WarmedH t.vm → fm_Qc G M sz post av.toArray s (.returned v) t := fun t ht _ => ⟨⟨v, M1, rfl, hpost, by rw [ht]; exact hP1⟩, hS.F ht⟩
    refine W.widen hk hn ?_
    rcases hret with ⟨r1, rfl, r3⟩ | ⟨x, ty, r1, rfl, r2, r3⟩ | ⟨x, r1, rfl, r3⟩ | ⟨a, nn, r1, rfl, r3⟩
    · exact W.vret hx hb (by rw [hr]; exact r1) hq hS.2.2 r3
    · exact W.zret hx hb (by rw [hr]; exact r1) r2 hq hS.2.2 r3
    · exact W.lret hx hb (by rw [hr]; exact r1) hq hS.2.2 r3
    · exact W.aret hx hb (by rw [hr]; exact r1) (Or.inl ⟨nn, rfl⟩) (Or.inr ⟨a, rfl⟩) hq hS.2.2 r3

end FMR