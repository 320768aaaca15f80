/-! more rows of the flat memory: a value by another name, lcmp, booleans, arraycopy -/
def bI (b : Bool) : Int32 := if b then 1 else 0
theorem bI_t : bI true = 1 := rfl
theorem bI_f : bI false = 0 := rfl
theorem bI_01 (b : Bool) : bI b = 0 ∨ bI b = 1 := by cases b; exact Or.inl rfl; exact Or.inr rfl
theorem bI_0 {b : Bool} : bI b = 0 ↔ b = false := by cases b <;> decide
theorem bI_n0 {b : Bool} : ¬ bI b = 0 ↔ b = true := by cases b <;> decide
theorem fm_cmp0 (x : Int64) : lg_cmp x 0 = 0 ↔ x = 0 := by
  unfold lg_cmp
  by_cases h : x > 0
  · rw [if_pos h]
    constructor
    · intro z; exact absurd z (by decide)
    · intro z; subst z; exact absurd h (by decide)
  · rw [if_neg h]
    by_cases h2 : x = 0
    · rw [if_pos h2]; exact ⟨fun _ => h2, fun _ => rfl⟩
    · rw [if_neg h2]
      constructor
      · intro z; exact absurd z (by decide)
      · intro z; exact absurd z h2
section FMQ
variable {G : fm_G} {X : fm_X} {own : String} {cc : ByteArray} {nL fr lo mc ms : Nat} {M : fm_M} {kc ks pc : Nat} {ls : List (Nat × Value)} {st : List Value}
abbrev fm_B (G : fm_G) (n : Nat) (f : Nat → Int32) : va_E := .inl (G.2.2 2, n, .inl f)
theorem g_topI {x y : Int32} (h : x = y) (kk : GW G X nL M kc ks pc ls (.int y :: st)) : GW G X nL M kc ks pc ls (.int x :: st) := by rw [h]; exact kk
theorem g_topL {x y : Int64} (h : x = y) (kk : GW G X nL M kc ks pc ls (.long y :: st)) : GW G X nL M kc ks pc ls (.long x :: st) := by rw [h]; exact kk
theorem g_topR {x : Option Nat} {a : Nat} (h : x = some a) (kk : GW G X nL M kc ks pc ls (.ref a :: st)) : GW G X nL M kc ks pc ls (va_rf x :: st) := by rw [h]; exact kk
theorem g_mem {M' : fm_M} (h : M = M') (kk : GW G X nL M' kc ks pc ls st) : GW G X nL M kc ks pc ls st := by rw [h]; exact kk
theorem g_lcmp (C : GC G X own cc nL fr lo mc ms) {x y : Int64} (hd : decode cc pc = .ok (.lcmp, 1)) (kk : GW G X nL M kc ks (pc + 1) ls (.int (lg_cmp x y) :: st)) : GW G X nL M kc ks pc ls (.long y :: .long x :: st) := by
  obtain ⟨p, e, R, s, m, args, below, meth, c, Q, A⟩ := X
  obtain ⟨hx, hb, hown, hts, hK, hA, hml, hlocks, hR, hZ⟩ := C
  intro H locs la hP hS hv
  exact W.lcmp hx hb hd (kk H locs la hP hS hv)
theorem g_inc1 (C : GC G X own cc nL fr lo mc ms) {i a : Nat} (hd : decode cc pc = .ok (.iinc i 1, 3)) (hl : fm_lk ls i = some (.int (nI a))) (hn : i < nL) (kk : GW G X nL M kc ks (pc + 3) (fm_put false i (.int (nI (a + 1))) ls) st) : GW G X nL M kc ks pc ls st := g_iinc C hd hl (nI_1 a) hn kk
theorem g_dec1 (C : GC G X own cc nL fr lo mc ms) {i a : Nat} (hd : decode cc pc = .ok (.iinc i (-1), 3)) (hl : fm_lk ls i = some (.int (nI (a + 1)))) (hn : i < nL) (kk : GW G X nL M kc ks (pc + 3) (fm_put false i (.int (nI a)) ls) st) : GW G X nL M kc ks pc ls st := g_iinc C hd hl (pk_m1 a) hn kk
theorem g_zaldN (C : GC G X own cc nL fr lo mc ms) (hd : decode cc pc = .ok (.baload, 1)) {a n j : Nat} {f : Nat → Int32} (hM : M a = some (fm_B G n f)) (hj : j < n) (hn : n < 2 ^ 31) (kk : GW G X nL M kc ks (pc + 1) ls (.int (f j) :: st)) : GW G X nL M kc ks pc ls (.int (nI j) :: .ref a :: st) := by
  obtain ⟨p, e, R, s, m, args, below, meth, c, Q, A⟩ := X
  obtain ⟨hx, hb, hown, hts, hK, hA, hml, hlocks, hR, hZ⟩ := C
  intro H locs la hP hS hv
  obtain ⟨L, f0, k0, h1, h2, h3, hm, he, hk⟩ := hP.at hM
  have hcl : (nI j).toNatClampNeg = j := nI_clamp (Nat.lt_trans hj hn)
  exact va_zald hx hb hK.1 h2 k0 2 hk rfl (vp_in_nI hj hn) hd (by rw [hcl]; exact kk H locs la hP hS hv)
theorem g_zastN (C : GC G X own cc nL fr lo mc ms) (hd : decode cc pc = .ok (.bastore, 1)) {a n j : Nat} {f : Nat → Int32} {b : Bool} (hM : M a = some (fm_B G n f)) (hj : j < n) (hn : n < 2 ^ 31) (kk : GW G X nL (fm_set M a (fm_B G n (upd f j (bI b)))) kc ks (pc + 1) ls st) : GW G X nL M kc ks pc ls (.int (bI b) :: .int (nI j) :: .ref a :: st) := by
  obtain ⟨p, e, R, s, m, args, below, meth, c, Q, A⟩ := X
  obtain ⟨hx, hb, hown, hts, hK, hA, hml, hlocks, hR, hZ⟩ := C
  intro H locs la hP hS hv
  obtain ⟨L, f0, k0, h1, h2, h3, hm, he, hk⟩ := hP.at hM
  have hcl : (nI j).toNatClampNeg = j := nI_clamp (Nat.lt_trans hj hn)
  have hnar : vp_nar .boolean (bI b) = bI b := by cases b <;> rfl
  refine va_zast hx hb hK.1 h2 h3 hS k0 2 hk rfl (vp_in_nI hj hn) hd (fun H1 locs1 q1 q2 q3 => ?_)
  rw [hcl, hnar] at q1 q2
  exact kk H1 locs1 la (fm_P.put h1 h3 hm he hk q1 q2) q3 hv
theorem g_newZ (C : GC G X own cc nL fr lo mc ms) {at0 : ArrayType} (hat : newarray.typeOf at0 = .boolean) (hw : Cond.arrayClass .boolean ∈ fm_tbl) (hd : decode cc pc = .ok (.newarray at0, 2)) {N : Nat} (hN : N < 2 ^ 27) (hc : kc + 1 ≤ mc) (hs : ks + N ≤ ms) (kk : ∀ q : Nat, M q = none → GW G X nL (fm_set M q (fm_B G N (fun _ => 0))) (kc + 1) (ks + N) (pc + 2) ls (.ref q :: st)) : GW G X nL M kc ks pc ls (.int (nI N) :: st) := by
  obtain ⟨p, e, R, s, m, args, below, meth, c, Q, A⟩ := X
  obtain ⟨hx, hb, hown, hts, hK, hA, hml, hlocks, hR, hZ⟩ := C
  intro H locs la hP hS hv
  obtain ⟨L, f, h1, h2, h3⟩ := hP
  have hN2 : N < 2 ^ 31 := Nat.lt_trans hN (by decide)
  refine va_newa (a0 := (N, .inl (fun _ => 0))) (N' := N) hx hb (by rw [hat]; exact hts _ hw) hat hK.1 h2 h3 hS hA (fun cA => rfl) (nI_pos hN2) (nI_clamp hN2) (by show N * 1 ≤ 536870912; omega) (by rw [hR.2.2.1]; exact hc) (by rw [hR.2.2.2]; exact hs) hd (fun q cA H1 q0 q1 q2 q3 => ?_)
  have e1 := (q0.2 (fm_tys G.2.2).length (cA, .boolean) (by simp)).2
  have e2 := (hK.1.2 2 (G.2.2 2, .boolean) rfl).2
  have e3 : cA = G.2.2 2 := Option.some.inj ((show s.vm.findClass _ = some cA from e1).symm.trans e2)
  subst e3
  obtain ⟨n1, n2⟩ := fm_P.new h1 q1 q2
  exact kk q n1 H1 locs la n2 q3 hv
def fm_wC (own : String) (idx : Nat) : Prop := ∀ w ∈ ([.methodLink own idx arraycopyName, .native arraycopyName, .static arraycopyName, .initialized "java/lang/System"] : List Cond), w ∈ fm_tbl
theorem g_copyL (C : GC G X own cc nL fr lo mc ms) {idx : Nat} (w : fm_wC own idx) (hd : decode cc pc = .ok (.invokestatic idx, 3)) {a0 a n0 n1 n : Nat} {f g : Nat → Int64} (h0 : M a0 = some (fm_L G n0 f)) (hM : M a = some (fm_L G n1 g)) (hn0 : n ≤ n0) (hn1 : n ≤ n1) (hn : n < 2 ^ 31) (hfr : 1 ≤ fr) (hlo : (st.map fun v => v.category).sum + (nativeFrameWords "java/lang/System" "arraycopy" 5 + 11) ≤ lo) (kk : GW G X nL (fm_set M a (fm_L G n1 (va_cpy f g 0 0 n))) kc ks (pc + 3) ls st) : GW G X nL M kc ks pc ls (.int (nI n) :: .int (nI 0) :: .ref a :: .int (nI 0) :: .ref a0 :: st) := by
  obtain ⟨p, e, R, s, m, args, below, meth, c, Q, A⟩ := X
  obtain ⟨hx, hb, hown, hts, hK, hA, hml, hlocks, hR, hZ⟩ := C
  intro H locs la hP hS hv
  obtain ⟨L, f0, k0, h1, h2, h3, hm, he, hk⟩ := hP.at hM
  have hm0 : a0 ∈ L ∧ f0 a0 = fm_L G n0 f := by
    have h5 := h1 a0
    rw [h0] at h5
    by_cases hz : a0 ∈ L
    · rw [if_pos hz] at h5
      exact ⟨hz, (Option.some.inj h5).symm⟩
    · rw [if_neg hz] at h5; cases h5
  obtain ⟨k1, hk1⟩ := va_pl_get (X := []) (f := f0) hm0.1
  rw [hm0.2] at hk1
  have c0 : (nI 0).toNatClampNeg = 0 := nI_clamp (by decide)
  have cn : (nI n).toNatClampNeg = n := nI_clamp hn
  refine va_copyl (ty := .long) hx hb (by rw [hml]; exact hv.1.symm) hown (hts _ (w _ (by simp))) (hts _ (w _ (by simp))) (hts _ (w _ (by simp))) (hts _ (w _ (by simp))) hK.1 h2 h3 hS k1 k0 1 1 hk1 hk rfl rfl rfl (nI_pos (by decide)) (nI_pos (by decide)) (nI_pos hn) (by rw [c0, cn]; omega) (by rw [c0, cn]; omega) (fun i _ => rfl) (by rw [hR.1]; exact hfr) (by rw [hR.2.1]; exact hlo) hd (fun H1 locs1 q1 q2 q3 => ?_)
  rw [c0, cn] at q1 q2
  exact kk H1 locs1 la (fm_P.put h1 h3 hm he hk q1 q2) q3 hv
theorem g_copyI (C : GC G X own cc nL fr lo mc ms) {idx : Nat} (w : fm_wC own idx) (hd : decode cc pc = .ok (.invokestatic idx, 3)) {a0 a n0 n1 n : Nat} {f g : Nat → Int32} (h0 : M a0 = some (fm_I G n0 f)) (hM : M a = some (fm_I G n1 g)) (hn0 : n ≤ n0) (hn1 : n ≤ n1) (hn : n < 2 ^ 31) (hfr : 1 ≤ fr) (hlo : (st.map fun v => v.category).sum + (nativeFrameWords "java/lang/System" "arraycopy" 5 + 11) ≤ lo) (kk : GW G X nL (fm_set M a (fm_I G n1 (va_cpy f g 0 0 n))) kc ks (pc + 3) ls st) : GW G X nL M kc ks pc ls (.int (nI n) :: .int (nI 0) :: .ref a :: .int (nI 0) :: .ref a0 :: st) := by
  obtain ⟨p, e, R, s, m, args, below, meth, c, Q, A⟩ := X
  obtain ⟨hx, hb, hown, hts, hK, hA, hml, hlocks, hR, hZ⟩ := C
  intro H locs la hP hS hv
  obtain ⟨L, f0, k0, h1, h2, h3, hm, he, hk⟩ := hP.at hM
  have hm0 : a0 ∈ L ∧ f0 a0 = fm_I G n0 f := by
    have h5 := h1 a0
    rw [h0] at h5
    by_cases hz : a0 ∈ L
    · rw [if_pos hz] at h5
      exact ⟨hz, (Option.some.inj h5).symm⟩
    · rw [if_neg hz] at h5; cases h5
  obtain ⟨k1, hk1⟩ := va_pl_get (X := []) (f := f0) hm0.1
  rw [hm0.2] at hk1
  have c0 : (nI 0).toNatClampNeg = 0 := nI_clamp (by decide)
  have cn : (nI n).toNatClampNeg = n := nI_clamp hn
  refine va_copyi (ty := .int) hx hb (by rw [hml]; exact hv.1.symm) hown (hts _ (w _ (by simp))) (hts _ (w _ (by simp))) (hts _ (w _ (by simp))) (hts _ (w _ (by simp))) hK.1 h2 h3 hS k1 k0 0 0 hk1 hk rfl rfl rfl (nI_pos (by decide)) (nI_pos (by decide)) (nI_pos hn) (by rw [c0, cn]; omega) (by rw [c0, cn]; omega) (fun i _ => rfl) (by rw [hR.1]; exact hfr) (by rw [hR.2.1]; exact hlo) hd (fun H1 locs1 q1 q2 q3 => ?_)
  rw [c0, cn] at q1 q2
  exact kk H1 locs1 la (fm_P.put h1 h3 hm he hk q1 q2) q3 hv
end FMQ

theorem cw_X0_31 : fm_wC RX0 31 := (List.forall_mem_cons.mpr ⟨fm_ix 432 (by decide +kernel) rfl, (List.forall_mem_cons.mpr ⟨fm_ix 434 (by decide +kernel) rfl, (List.forall_mem_cons.mpr ⟨fm_ix 433 (by decide +kernel) rfl, (List.forall_mem_cons.mpr ⟨fm_ix 41 (by decide +kernel) rfl, (fun _ h => nomatch h)⟩)⟩)⟩)⟩)
theorem cw_X5_119 : fm_wC RX5 119 := (List.forall_mem_cons.mpr ⟨fm_ix 546 (by decide +kernel) rfl, (List.forall_mem_cons.mpr ⟨fm_ix 434 (by decide +kernel) rfl, (List.forall_mem_cons.mpr ⟨fm_ix 433 (by decide +kernel) rfl, (List.forall_mem_cons.mpr ⟨fm_ix 41 (by decide +kernel) rfl, (fun _ h => nomatch h)⟩)⟩)⟩)⟩)
