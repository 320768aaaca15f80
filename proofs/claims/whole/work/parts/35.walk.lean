/-! Walk: openTree, openBelow, through -/
theorem g_abs {G : fm_G} {X : fm_X} {nL : Nat} {M : fm_M} {kc ks pc : Nat} {ls : List (Nat × Value)} {st : List Value} (Q : fm_M → Prop) (h : Q M) (kk : ∀ M', Q M' → GW G X nL M' kc ks pc ls st) : GW G X nL M kc ks pc ls st := kk M h
/-- a scalar, an array is changed, and nothing else -/
def scI (S S' : Cs) (i : Nat) (x : Int32) : Prop := S'.1 = S.1 ∧ S'.2.1 = S.2.1 ∧ S'.2.2 = va_up S.2.2 i x
def arI (S S' : Cs) (j : Nat) (f : Nat → Int32) : Prop := S'.1 = S.1 ∧ S'.2.1 = va_up S.2.1 j f ∧ S'.2.2 = S.2.2
theorem scI.at {S S' : Cs} {i : Nat} {x : Int32} (h : scI S S' i x) : S'.2.2 i = x := by rw [h.2.2, va_up_self]
theorem scI.ne {S S' : Cs} {i j : Nat} {x : Int32} (h : scI S S' i x) (hj : j ≠ i) : S'.2.2 j = S.2.2 j := by rw [h.2.2, va_up_ne _ _ hj]
theorem arI.at {S S' : Cs} {i : Nat} {x : Nat → Int32} (h : arI S S' i x) : S'.2.1 i = x := by rw [h.2.1, va_up_self]
theorem arI.ne {S S' : Cs} {i j : Nat} {x : Nat → Int32} (h : arI S S' i x) (hj : j ≠ i) : S'.2.1 j = S.2.1 j := by rw [h.2.1, va_up_ne _ _ hj]
/-- the same but for the walk -/
def eqT (S S' : Cs) : Prop := S'.1 = S.1 ∧ (∀ j, (j < 71 ∨ 75 < j) → S'.2.1 j = S.2.1 j) ∧ ∀ i, i ≠ 3 → i ≠ 4 → S'.2.2 i = S.2.2 i
theorem eqT.rf {S : Cs} : eqT S S := ⟨rfl, fun _ _ => rfl, fun _ _ _ => rfl⟩
theorem eqT.tr {S S' S'' : Cs} (h : eqT S S') (h2 : eqT S' S'') : eqT S S'' := ⟨h2.1.trans h.1, fun j hj => (h2.2.1 j hj).trans (h.2.1 j hj), fun i h3 h4 => (h2.2.2 i h3 h4).trans (h.2.2 i h3 h4)⟩
theorem scI.T {S S' : Cs} {i : Nat} {x : Int32} (h : scI S S' i x) (hi : i = 3 ∨ i = 4) : eqT S S' := ⟨h.1, fun j _ => by rw [h.2.1], fun j h3 h4 => h.ne (by omega)⟩
theorem arI.T {S S' : Cs} {i : Nat} {x : Nat → Int32} (h : arI S S' i x) (hi : 71 ≤ i ∧ i ≤ 75) : eqT S S' := ⟨h.1, fun j hj => h.ne (by omega), fun j _ _ => by rw [h.2.2]⟩
theorem eqX.T {S S' : Cs} (h : eqX S S' [] [75]) : eqT S S' := ⟨funext fun k => h.1 k (by simp), fun j hj => h.2.1 j (by simp; omega), fun i _ _ => by rw [h.2.2]⟩
theorem eqT.ru {g : Gr} {S S' : Cs} (h : eqT S S') (hg : g.nR ≤ 10) (hR : ruS g S) : ruS g S' := by
  refine ⟨by rw [h.2.2 0 (by decide) (by decide)]; exact hR.1, fun r hr => ?_⟩
  obtain ⟨a1, a2, a3, a4, a5, a6, a7⟩ := hR.2 r hr
  exact ⟨by rw [h.2.2 _ (by omega) (by omega)]; exact a1, a2, by rw [h.2.2 _ (by omega) (by omega)]; exact a3, a4, by rw [h.2.2 _ (by omega) (by omega)]; exact a5, a6, fun i hi => ⟨(a7 i hi).1, by rw [h.2.1 _ (by omega)]; exact (a7 i hi).2⟩⟩
theorem CI.of {g : Gr} {H : Nat} {S S' : Cs} (hg : GrOk g) (h1 : S'.1 = S.1) (h2 : ∀ j, j < 70 → S'.2.1 j = S.2.1 j) (w3 : CI g H S) : CI g H S' := by
  have h10 := hg.1
  refine ⟨fun n hn => ⟨(w3.1 n hn).1.of (by rw [h1]) (by rw [h1]), fun c hc => ?_⟩, fun r' hr' i' hi' => ?_⟩
  · rw [h1, h2 n (by omega), h2 (5 + n) (by omega)]
    exact (w3.1 n hn).2 c hc
  · have := (hg.2 r' hr').2.1
    exact (w3.2 r' hr' i' hi').of (by rw [h1]) (by rw [h1]) (h2 _ (by omega))
theorem wkI.of {g : Gr} {S S' : Cs} (hg : GrOk g) (h1 : S'.1 = S.1) (h2 : ∀ j, j < 70 → S'.2.1 j = S.2.1 j) (h : wkI g S) : wkI g S' := by
  obtain ⟨H, w2, w3, w4⟩ := h
  exact ⟨H, w2, w3.of hg h1 h2, w4⟩
theorem eqT.wk {g : Gr} {S S' : Cs} (h : eqT S S') (hg : GrOk g) (hw : wkI g S) : wkI g S' := hw.of hg h.1 (fun j hj => h.2.1 j (by omega))
/-- one tree more to come -/
def otI (S S' : Cs) (k : Nat) (x y : Int32) : Prop := S'.1 = S.1 ∧ (∀ j, j ≠ 73 → j ≠ 74 → S'.2.1 j = S.2.1 j) ∧ S'.2.1 73 = upd (S.2.1 73) k x ∧ S'.2.1 74 = upd (S.2.1 74) k y ∧ S'.2.2 = va_up S.2.2 4 (nI (k + 1))
theorem otI.T {S S' : Cs} {k : Nat} {x y : Int32} (h : otI S S' k x y) : eqT S S' := ⟨h.1, fun j hj => h.2.1 j (by omega) (by omega), fun i h3 h4 => by rw [h.2.2.2.2, va_up_ne _ _ h4]⟩

set_option maxHeartbeats 4000000 in
set_option maxRecDepth 100000 in
theorem c_openTree (G : fm_G) (ad : Nat → Nat → Nat) (nr : Nat) (S : Cs) (M : fm_M) (Pi : Pic G ad nr S M) (k : Nat) (x y : Int32) (hk : k < 500) (ho : S.2.2 4 = nI k) : fm_Ct G yX4_openTree cX4_openTree 3 none 0 0 0 0 [.ref (ad 10 0), .int x, .int y] M (fun v M1 => v = none ∧ ∃ S', Pic G ad nr S' M1 ∧ Fr ad nr M M1 ∧ otI S S' k x y) := by
  have l3 : liv nr 2 73 := Or.inr (Or.inr (Or.inr (by omega)))
  have l4 : liv nr 2 74 := Or.inr (Or.inr (Or.inr (by omega)))
  refine fm_head (by decide) (Nat.le_of_ble_eq_true rfl) rfl (fun X C N0 rt => ?_)
  refine g_aload_n C dX4_openTree_0 rfl ?_
  refine g_getf C fl_X4_22 dX4_openTree_1 Pi.kwk rfl ?_
  refine g_aload_n C dX4_openTree_4 rfl ?_
  refine g_getf C fl_X4_28 dX4_openTree_5 Pi.kwk rfl ?_
  rw [ho]
  refine g_iload_n C dX4_openTree_8 rfl ?_
  refine g_iastN C dX4_openTree_9 (Pi.kar (n := 500) l3 rfl) hk (by decide) ?_
  refine g_abs (fun M' => ∃ S1, Pic G ad nr S1 M' ∧ Fr ad nr M M' ∧ arI S S1 73 (upd (S.2.1 73) k x)) ⟨_, Pi.ar l3 _ rfl, Fr.rf.st (t := 2) (k := 73) l3, rfl, rfl, rfl⟩ (fun M1 ⟨S1, P1, F1, A1⟩ => ?_)
  have o1 : S1.2.2 4 = nI k := by rw [A1.2.2]; exact ho
  refine g_aload_n C dX4_openTree_10 rfl ?_
  refine g_getf C fl_X4_25 dX4_openTree_11 P1.kwk rfl ?_
  refine g_aload_n C dX4_openTree_14 rfl ?_
  refine g_getf C fl_X4_28 dX4_openTree_15 P1.kwk rfl ?_
  rw [o1]
  refine g_iload_n C dX4_openTree_18 rfl ?_
  refine g_iastN C dX4_openTree_19 (P1.kar (n := 500) l4 rfl) hk (by decide) ?_
  refine g_abs (fun M' => ∃ S2, Pic G ad nr S2 M' ∧ Fr ad nr M M' ∧ arI S1 S2 74 (upd (S1.2.1 74) k y)) ⟨_, P1.ar l4 _ rfl, F1.st (t := 2) (k := 74) l4, rfl, rfl, rfl⟩ (fun M2 ⟨S2, P2, F2, A2⟩ => ?_)
  have o2 : S2.2.2 4 = nI k := by rw [A2.2.2]; exact o1
  refine g_aload_n C dX4_openTree_20 rfl ?_
  refine g_dup C dX4_openTree_21 rfl ?_
  refine g_getf C fl_X4_28 dX4_openTree_22 P2.kwk rfl ?_
  rw [o2]
  refine g_iconst C dX4_openTree_25 (v := nI 1) rfl ?_
  refine g_iadd C dX4_openTree_26 ?_
  refine g_topI (nI_add k 1) ?_
  refine g_putf C fl_X4_28 rfl dX4_openTree_27 P2.kwk rfl rfl (Nat.le_of_ble_eq_true rfl) ?_
  refine rt none _ _ _ _ _ (fm_retV dX4_openTree_30) ⟨rfl, _, P2.wk (Or.inr rfl) (nI (k + 1)) rfl, F2.st (t := 10) (k := 0) rfl, ?_, fun j h3 h4 => ?_, ?_, ?_, ?_⟩ (Nat.le_refl _) (Nat.le_refl _)
  · exact A2.1.trans A1.1
  · exact (A2.ne h4).trans (A1.ne h3)
  · exact (A2.ne (by decide)).trans A1.at
  · refine A2.at.trans ?_
    rw [A1.ne (by decide)]
  · show va_up S2.2.2 4 _ = _
    rw [A2.2.2, A1.2.2]

/-- trees still to come: k of them, and then those below a root, the last first -/
def obI (S S' : Cs) (k sz m : Nat) (pt : Nat → Nat) (ch : Nat → Int32) : Prop := eqT S S' ∧ (∀ j, j ≠ 73 → j ≠ 74 → S'.2.1 j = S.2.1 j) ∧ S'.2.2 3 = S.2.2 3 ∧ S'.2.2 4 = nI (k + (sz - m)) ∧ (∀ j, j < k → S'.2.1 73 j = S.2.1 73 j ∧ S'.2.1 74 j = S.2.1 74 j) ∧ ∀ q, q < sz - m → S'.2.1 73 (k + q) = nI (pt (sz - 1 - q)) ∧ S'.2.1 74 (k + q) = ch (sz - 1 - q)
theorem obI_0 {S : Cs} {k sz : Nat} {pt : Nat → Nat} {ch : Nat → Int32} (h : S.2.2 4 = nI k) : obI S S k sz sz pt ch := ⟨eqT.rf, fun _ _ _ => rfl, rfl, by rw [h, Nat.sub_self]; rfl, fun _ _ => ⟨rfl, rfl⟩, fun q hq => absurd hq (by omega)⟩
theorem obI_s {S S1 S2 : Cs} {k sz m : Nat} {pt : Nat → Nat} {ch : Nat → Int32} (hm : m < sz) (h : obI S S1 k sz (m + 1) pt ch) (h2 : otI S1 S2 (k + (sz - (m + 1))) (nI (pt m)) (ch m)) : obI S S2 k sz m pt ch := by
  obtain ⟨a1, a2, a3, a4, a5, a6⟩ := h
  have hT := h2.T
  obtain ⟨b1, b2, b3, b4, b5⟩ := h2
  refine ⟨a1.tr hT, fun j h3 h4 => (b2 j h3 h4).trans (a2 j h3 h4), ?_, ?_, fun j hj => ?_, fun q hq => ?_⟩
  · rw [b5, va_up_ne _ _ (by decide)]; exact a3
  · rw [b5, va_up_self, show k + (sz - (m + 1)) + 1 = k + (sz - m) by omega]
  · rw [b3, b4, pk_un (by omega), pk_un (by omega)]; exact a5 j hj
  · rw [b3, b4]
    by_cases hq2 : q = sz - (m + 1)
    · subst hq2
      rw [pk_us, pk_us, show sz - 1 - (sz - (m + 1)) = m by omega]
      exact ⟨rfl, rfl⟩
    · rw [pk_un (by omega), pk_un (by omega)]; exact a6 q (by omega)

set_option maxHeartbeats 4000000 in
set_option maxRecDepth 100000 in
theorem l_openBelow {G : fm_G} {ad : Nat → Nat → Nat} {nr : Nat} {S : Cs} {M : fm_M} {X : fm_X} {fr lo mc ms : Nat} {r lf sz lc k : Nat} {pt : Nat → Nat} (C : GC G X RX4 cX4_openBelow 3 (fr + 1) (lo + 22) mc ms) (hr : r < nr) (hk : k + sz ≤ 500) (hI : ruI S r lf sz lc pt) (kk : ∀ S' M1 ls, Pic G ad nr S' M1 → Fr ad nr M M1 → obI S S' k sz 0 pt (S.2.1 75) → GW G X 3 M1 0 0 33 ls []) : ∀ m S1 M1, m ≤ sz → Pic G ad nr S1 M1 → Fr ad nr M M1 → obI S S1 k sz m pt (S.2.1 75) → GW G X 3 M1 0 0 7 [(0, .ref (ad 10 0)), (1, .ref (ad 4 r)), (2, .int (dn m))] [] := by
  obtain ⟨i1, i2, i3, i4, i5, i6, i7⟩ := hI
  intro m
  induction m with
  | zero =>
    intro S1 M1 hm P1 F1 I1
    refine g_iload_n C dX4_openBelow_7 rfl ?_
    refine g_if_lt C dX4_openBelow_8 (tgt := 33) (by decide) (fun hb => ?_) (fun hb => absurd (by decide) hb)
    exact kk S1 M1 _ P1 F1 I1
  | succ m ih =>
    intro S1 M1 hm P1 F1 I1
    show GW G X 3 M1 0 0 7 [(0, .ref (ad 10 0)), (1, .ref (ad 4 r)), (2, .int (nI m))] []
    have h10 := P1.1
    have lp : liv nr 2 (10 + r) := Or.inr (Or.inl ⟨by omega, by omega⟩)
    have l75 : liv nr 2 75 := Or.inr (Or.inr (Or.inr (by omega)))
    obtain ⟨p1, p2⟩ := i7 m (by omega)
    have p3 : S1.2.1 (10 + r) m = nI (pt m) := by rw [I1.2.1 (10 + r) (by omega) (by omega)]; exact p2
    have p4 : S1.2.1 75 m = S.2.1 75 m := by rw [I1.2.1 75 (by omega) (by omega)]
    refine g_iload_n C dX4_openBelow_7 rfl ?_
    refine g_if_lt C dX4_openBelow_8 (tgt := 33) (by decide) (fun hb => absurd hb (nI_pos (by omega))) (fun hb => ?_)
    refine g_aload_n C dX4_openBelow_11 rfl ?_
    refine g_aload_n C dX4_openBelow_12 rfl ?_
    refine g_getf C fl_X4_63 dX4_openBelow_13 (P1.kru hr) rfl ?_
    refine g_iload_n C dX4_openBelow_16 rfl ?_
    refine g_ialdN C dX4_openBelow_17 (P1.kar lp (lenA_p (by omega))) (by omega) (by decide) ?_
    rw [p3]
    refine g_aload_n C dX4_openBelow_18 rfl ?_
    refine g_getf C fl_X4_31 dX4_openBelow_19 P1.kwk rfl ?_
    refine g_iload_n C dX4_openBelow_22 rfl ?_
    refine g_ialdN C dX4_openBelow_23 (P1.kar (n := 4) l75 rfl) (by omega) (by decide) ?_
    rw [p4]
    refine g_callV (ci := 4) C dX4_openBelow_24 cw_X4_40 rfl (c_openTree G ad nr S1 M1 P1 (k + (sz - (m + 1))) (nI (pt m)) (S.2.1 75 m) (by omega) I1.2.2.2.1) P1.kwk rfl rfl (Nat.le_of_ble_eq_true rfl) (by omega) (by omega) (by omega) (by omega) (fun v M2 hq => ?_)
    obtain ⟨rfl, S2, P2, F2, T2⟩ := hq
    show GW G X 3 M2 0 0 27 _ []
    refine g_iinc C dX4_openBelow_27 rfl (dn_m1 m) (by decide) ?_
    refine g_goto C dX4_openBelow_30 (tgt := 7) (by decide) ?_
    exact ih S2 M2 (by omega) P2 (F1.tr F2) (obI_s (by omega) I1 T2)

set_option maxHeartbeats 4000000 in
set_option maxRecDepth 100000 in
theorem c_openBelow (G : fm_G) (ad : Nat → Nat → Nat) (nr : Nat) (S : Cs) (M : fm_M) (Pi : Pic G ad nr S M) (r lf sz lc k : Nat) (pt : Nat → Nat) (hr : r < nr) (hk : k + sz ≤ 500) (ho : S.2.2 4 = nI k) (hI : ruI S r lf sz lc pt) : fm_Ct G yX4_openBelow cX4_openBelow 3 none 1 22 0 0 [.ref (ad 10 0), .ref (ad 4 r)] M (fun v M1 => v = none ∧ ∃ S', Pic G ad nr S' M1 ∧ Fr ad nr M M1 ∧ obI S S' k sz 0 pt (S.2.1 75)) := by
  have hI0 := hI
  obtain ⟨i1, i2, i3, i4, i5, i6, i7⟩ := hI
  refine fm_head (by decide) (Nat.le_of_ble_eq_true rfl) rfl (fun X C N0 rt => ?_)
  refine g_aload_n C dX4_openBelow_0 rfl ?_
  refine g_getf C fl_X4_49 dX4_openBelow_1 (Pi.kru hr) rfl ?_
  rw [i5]
  refine g_iconst C dX4_openBelow_4 (v := nI 1) rfl ?_
  refine g_isub C dX4_openBelow_5 ?_
  refine g_topI (dn_of sz) ?_
  refine g_istore_n C dX4_openBelow_6 (by decide) ?_
  exact l_openBelow (fr := 0) (lo := 0) (S := S) (M := M) C hr hk hI0 (fun S1 M1 ls P1 F1 I1 => rt none M1 _ _ _ ls (fm_retV dX4_openBelow_33) ⟨rfl, S1, P1, F1, I1⟩ (Nat.le_refl _) (Nat.le_refl _)) sz S M (Nat.le_refl _) Pi Fr.rf (obI_0 ho)
