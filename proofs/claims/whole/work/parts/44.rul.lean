/-! LetterCounts.rule -/
def apI (S S' : Cs) (r : Nat) (f : Nat → Nat) (p : Nat) : Prop := S'.1 = S.1 ∧ (∀ j, j ≠ 10 + r → S'.2.1 j = S.2.1 j) ∧ (∀ i, i ≠ 30 + r → i ≠ 40 + r → S'.2.2 i = S.2.2 i) ∧ S'.2.2 (30 + r) = nI (lcf f p) ∧ S'.2.2 (40 + r) = nI (nz f p) ∧ ∀ i, i < nz f p → S'.2.1 (10 + r) i = nI (ptf f p i)
theorem lcf_s (f : Nat → Nat) (p : Nat) : lcf f (p + 1) = lcf f p + (if 6 ≤ f p then 8 ^ (f p - 6) else 0) := rfl
theorem nz_s (f : Nat → Nat) (p : Nat) : nz f (p + 1) = nz f p + (if isN (f p) = true then 1 else 0) := rfl

set_option maxHeartbeats 4000000 in
set_option maxRecDepth 100000 in
theorem c_append (G : fm_G) (ad : Nat → Nat → Nat) (nr : Nat) (S S1 : Cs) (M : fm_M) (P1 : Pic G ad nr S1 M) (r : Nat) (f : Nat → Nat) (p : Nat) (hr : r < nr) (hp : p < 4) (hf : f p < 9) (hI : apI S S1 r f p) : fm_Ct G yX3_append cX3_append 2 none 0 0 0 0 [.ref (ad 4 r), .int (dn (f p))] M (fun v M2 => v = none ∧ ∃ S2, Pic G ad nr S2 M2 ∧ Fr ad nr M M2 ∧ apI S S2 r f (p + 1)) := by
  obtain ⟨h1, h2, h3, h4, h5, h6⟩ := hI
  have hnz := nz_le f p
  rcases (show f p = 0 ∨ (1 ≤ f p ∧ f p ≤ 5) ∨ 6 ≤ f p by omega) with h0 | hn | hl
  · have e1 : dn (f p) = -1 := by rw [h0]; rfl
    have e2 : lcf f (p + 1) = lcf f p := by rw [lcf_s, if_neg (by omega)]; rfl
    have e3 : nz f (p + 1) = nz f p := nz_no (fun z => by have := isN_iff.mp z; omega)
    rw [e1]
    refine (c_append_0 G ad nr S1 M P1 r hr).mono ?_
    rintro v M1 ⟨rfl, rfl⟩
    exact ⟨rfl, S1, P1, Fr.rf, h1, h2, h3, by rw [e2]; exact h4, by rw [e3]; exact h5, fun i hi => by rw [e3] at hi; rw [ptf_up hi]; exact h6 i hi⟩
  · obtain ⟨m, hm⟩ : ∃ m, f p = m + 1 := ⟨f p - 1, by omega⟩
    have e1 : dn (f p) = nI m := by rw [hm]; rfl
    have e2 : lcf f (p + 1) = lcf f p := by rw [lcf_s, if_neg (by omega)]; rfl
    have hN : isN (f p) = true := isN_iff.mpr hn
    obtain ⟨e3, e4⟩ := ptf_at (Nat.lt_succ_self p) hN
    rw [e1]
    refine (c_append_n G ad nr S1 M P1 r m (nz f p) hr (by omega) h5 (by omega)).mono ?_
    rintro v M1 ⟨rfl, P2, F2⟩
    refine ⟨rfl, _, P2, F2, h1, fun j hj => ?_, fun i h7 h8 => ?_, ?_, ?_, fun i hi => ?_⟩
    · show va_up S1.2.1 (10 + r) _ j = _
      rw [va_up_ne _ _ hj]; exact h2 j hj
    · show va_up S1.2.2 (40 + r) _ i = _
      rw [va_up_ne _ _ h8]; exact h3 i h7 h8
    · show va_up S1.2.2 (40 + r) _ (30 + r) = _
      rw [va_up_ne _ _ (by omega), e2]; exact h4
    · show va_up S1.2.2 (40 + r) _ (40 + r) = _
      rw [va_up_self, e3]
    · show va_up S1.2.1 (10 + r) (upd (S1.2.1 (10 + r)) (nz f p) (nI m)) (10 + r) i = _
      rw [va_up_self]
      by_cases he : i = nz f p
      · subst he; rw [pk_us, e4, hm]; rfl
      · rw [pk_un he, ptf_up (by omega)]; exact h6 i (by omega)
  · obtain ⟨s, hs⟩ : ∃ s, f p = 6 + s := ⟨f p - 6, by omega⟩
    have e1 : dn (f p) = nI (5 + s) := by rw [hs, show 6 + s = (5 + s) + 1 by omega]; rfl
    have e2 : lcf f (p + 1) = lcf f p + 8 ^ s := by rw [lcf_s, if_pos hl, hs, show 6 + s - 6 = s by omega]
    have e3 : nz f (p + 1) = nz f p := nz_no (fun z => by have := isN_iff.mp z; omega)
    rw [e1]
    refine (c_append_l G ad nr S1 M P1 r s (lcf f p) hr (by omega) h4).mono ?_
    rintro v M1 ⟨rfl, P2, F2⟩
    refine ⟨rfl, _, P2, F2, h1, h2, fun i h7 h8 => ?_, ?_, ?_, fun i hi => by rw [e3] at hi; rw [ptf_up hi]; exact h6 i hi⟩
    · show va_up S1.2.2 (30 + r) _ i = _
      rw [va_up_ne _ _ h7]; exact h3 i h7 h8
    · show va_up S1.2.2 (30 + r) _ (30 + r) = _
      rw [va_up_self, e2]
    · show va_up S1.2.2 (30 + r) _ (40 + r) = _
      rw [va_up_ne _ _ (by omega), e3]; exact h5

/-- the state behind a call of rule -/
def abR (a : Ab) (lf : Nat) (f : Nat → Nat) : Ab := (a.nR + 1, updN a.lf a.nR lf, fun r => if r = a.nR then f else a.sy r, updN a.us a.nR 0, 0, a.sp)
theorem CR_rule {a : Ab} {S S1 S6 : Cs} {lf : Nat} {f : Nat → Nat} (ha : AbOk a) (h : CR a S) (h10 : a.nR < 10) (hlf : lf < 5) (hf : ∀ p, p < 4 → f p < 9) (b1 : S1.1 = S.1 ∧ S1.2.1 = S.2.1 ∧ S1.2.2 = va_up (va_up (va_up (va_up S.2.2 (10 + a.nR) (nI lf)) (20 + a.nR) (nI 0)) (30 + a.nR) (nI 0)) (40 + a.nR) (nI 0)) (I4 : apI S1 S6 a.nR f 4) {S8 : Cs} (c1 : S8.1 = S6.1 ∧ S8.2.1 = S6.2.1 ∧ S8.2.2 = va_up (va_up (va_up S6.2.2 0 (nI (a.nR + 1))) 1 (nI 1)) 2 (nI 0)) : CR (abR a lf f) S8 := by
  obtain ⟨i1, i2, i3, i4, i5, i6⟩ := I4
  obtain ⟨h1, h2, h3, h4, -⟩ := h
  obtain ⟨b1, b2, b3⟩ := b1
  obtain ⟨c1, c2, c3⟩ := c1
  have hb : ∀ i, i ≠ 10 + a.nR → i ≠ 20 + a.nR → i ≠ 30 + a.nR → i ≠ 40 + a.nR → S1.2.2 i = S.2.2 i := fun i z1 z2 z3 z4 => by rw [b3, va_up_ne _ _ z4, va_up_ne _ _ z3, va_up_ne _ _ z2, va_up_ne _ _ z1]
  have hc : ∀ i, 3 ≤ i → S8.2.2 i = S6.2.2 i := fun i z => by rw [c3, va_up_ne _ _ (by omega), va_up_ne _ _ (by omega), va_up_ne _ _ (by omega)]
  refine ⟨⟨?_, fun r hr => ?_⟩, fun r hr => ?_, ?_, fun t ht => absurd ht (Nat.not_lt_zero t), Or.inl ?_⟩
  · rw [c3, va_up_ne _ _ (by decide), va_up_ne _ _ (by decide), va_up_self]; rfl
  · have hr : r < a.nR + 1 := hr
    by_cases he : r = a.nR
    · subst he
      have e1 : (gO (abR a lf f)).lf a.nR = lf := if_pos rfl
      have e2 : (gO (abR a lf f)).sz a.nR = nz f 4 := by show nz (if a.nR = a.nR then f else a.sy a.nR) 4 = _; rw [if_pos rfl]
      have e3 : (gO (abR a lf f)).lc a.nR = lcf f 4 := by show lcf (if a.nR = a.nR then f else a.sy a.nR) 4 = _; rw [if_pos rfl]
      have e4 : (gO (abR a lf f)).pt a.nR = ptf f 4 := by show ptf (if a.nR = a.nR then f else a.sy a.nR) 4 = _; rw [if_pos rfl]
      rw [e1, e2, e3, e4]
      refine ⟨?_, hlf, ?_, ?_, ?_, nz_le f 4, fun i hi => ⟨ptf_lt 4 i hi, ?_⟩⟩
      · rw [hc _ (by omega), i3 _ (by omega) (by omega), b3, va_up_ne _ _ (by omega), va_up_ne _ _ (by omega), va_up_ne _ _ (by omega), va_up_self]
      · rw [hc _ (by omega)]; exact i4
      · rw [lcf_tm f 4 hf]
        have := tm_le f 6 4
        have := tm_le f 7 4
        have := tm_le f 8 4
        omega
      · rw [hc _ (by omega)]; exact i5
      · rw [c2]; exact i6 i hi
    · have e1 : (gO (abR a lf f)).lf r = a.lf r := if_neg he
      have e2 : (gO (abR a lf f)).sz r = nz (a.sy r) 4 := by show nz (if r = a.nR then f else a.sy r) 4 = _; rw [if_neg he]
      have e3 : (gO (abR a lf f)).lc r = lcf (a.sy r) 4 := by show lcf (if r = a.nR then f else a.sy r) 4 = _; rw [if_neg he]
      have e4 : (gO (abR a lf f)).pt r = ptf (a.sy r) 4 := by show ptf (if r = a.nR then f else a.sy r) 4 = _; rw [if_neg he]
      rw [e1, e2, e3, e4]
      obtain ⟨a1, a2, a3, a4, a5, a6, a7⟩ := h1.2 r (show r < a.nR by omega)
      refine ⟨?_, a2, ?_, a4, ?_, a6, fun i hi => ⟨(a7 i hi).1, ?_⟩⟩
      · rw [hc _ (by omega), i3 _ (by omega) (by omega), hb _ (by omega) (by omega) (by omega) (by omega)]; exact a1
      · rw [hc _ (by omega), i3 _ (by omega) (by omega), hb _ (by omega) (by omega) (by omega) (by omega)]; exact a3
      · rw [hc _ (by omega), i3 _ (by omega) (by omega), hb _ (by omega) (by omega) (by omega) (by omega)]; exact a5
      · rw [c2, i2 _ (by omega), b2]; exact (a7 i hi).2
  · have hr : r < a.nR + 1 := hr
    show S8.2.2 (20 + r) = nI (if r = a.nR then 0 else a.us r)
    rw [hc _ (by omega), i3 _ (by omega) (by omega)]
    by_cases he : r = a.nR
    · subst he
      rw [if_pos rfl, b3, va_up_ne _ _ (by omega), va_up_ne _ _ (by omega), va_up_self]
    · rw [if_neg he, hb _ (by omega) (by omega) (by omega) (by omega)]; exact h2 r (by omega)
  · rw [c3, va_up_self]; rfl
  · rw [c3, va_up_ne _ _ (by decide), va_up_self]; rfl

set_option maxHeartbeats 4000000 in
set_option maxRecDepth 100000 in
theorem l_rule {G : fm_G} {ad : Nat → Nat → Nat} {nr : Nat} {S : Cs} {M : fm_M} {X : fm_X} {fr lo mc ms kc ks : Nat} {a : Ab} {lf : Nat} {f : Nat → Nat} (C : GC G X RX5 cX5_rule 7 (fr + 1) (lo + 30) mc ms) (Pi : Pic G ad nr S M) (ha : AbOk a) (hnr : a.nR < nr) (h : CR a S) (hk : kc ≤ mc) (hs : ks ≤ ms) (hlf : lf < 5) (hf : ∀ p, p < 4 → f p < 9) (kk : ∀ S' M1 ls, Pic G ad nr S' M1 → Fr ad nr M M1 → CR (abR a lf f) S' → GW G X 7 M1 kc ks 132 ls [.int (nI a.nR)]) : GW G X 7 M kc ks 69 [(0, .ref (ad 7 0)), (1, .int (nI lf)), (2, .int (dn (f 0))), (3, .int (dn (f 1))), (4, .int (dn (f 2))), (5, .int (dn (f 3)))] [] := by
  have h10 := Pi.1
  have hr : a.nR < nr := hnr
  have e0 : S.2.2 0 = nI a.nR := h.1.1
  generalize hrr : a.nR = r at *
  refine g_aload_n C dX5_rule_69 rfl ?_
  refine g_getf C fl_X5_17 dX5_rule_70 Pi.klc rfl ?_
  refine g_aload_n C dX5_rule_73 rfl ?_
  refine g_getf C fl_X5_21 dX5_rule_74 Pi.klc rfl ?_
  rw [e0]
  refine g_aaldN C dX5_rule_77 Pi.krus rfl (by omega) (by decide) (krus_at hr) ?_
  refine g_astore C dX5_rule_78 (by decide) ?_
  refine g_aload C dX5_rule_80 rfl ?_
  refine g_iload_n C dX5_rule_82 rfl ?_
  refine g_callV (ci := 3) C dX5_rule_83 cw_X5_59 rfl (c_begin G ad nr S M Pi r hr (nI lf)) (Pi.kru hr) rfl rfl (Nat.le_of_ble_eq_true rfl) (by omega) (by omega) (by omega) (by omega) (fun v M1 hq => ?_)
  obtain ⟨rfl, P1', F1⟩ := hq
  obtain ⟨S1, P1, b1⟩ : ∃ S1, Pic G ad nr S1 M1 ∧ S1.1 = S.1 ∧ S1.2.1 = S.2.1 ∧ S1.2.2 = va_up (va_up (va_up (va_up S.2.2 (10 + r) (nI lf)) (20 + r) (nI 0)) (30 + r) (nI 0)) (40 + r) (nI 0) := ⟨_, P1', rfl, rfl, rfl⟩
  have I0 : apI S1 S1 r f 0 := ⟨rfl, fun _ _ => rfl, fun _ _ _ => rfl, by rw [b1.2.2, va_up_ne _ _ (by omega), va_up_self]; rfl, by rw [b1.2.2, va_up_self]; rfl, fun i hi => absurd hi (Nat.not_lt_zero i)⟩
  show GW G X 7 M1 kc ks 86 _ []
  refine g_aload C dX5_rule_86 rfl ?_
  refine g_iload_n C dX5_rule_88 rfl ?_
  refine g_callV (ci := 3) C dX5_rule_89 cw_X5_62 rfl (c_append G ad nr S1 S1 _ P1 r f 0 hr (by decide) (hf 0 (by decide)) I0) (P1.kru hr) rfl rfl (Nat.le_of_ble_eq_true rfl) (by omega) (by omega) (by omega) (by omega) (fun v M2 hq => ?_)
  obtain ⟨rfl, S2, P2, F2, I1⟩ := hq
  show GW G X 7 M2 kc ks 92 _ []
  refine g_aload C dX5_rule_92 rfl ?_
  refine g_iload_n C dX5_rule_94 rfl ?_
  refine g_callV (ci := 3) C dX5_rule_95 cw_X5_62 rfl (c_append G ad nr S1 S2 _ P2 r f 1 hr (by decide) (hf 1 (by decide)) I1) (P2.kru hr) rfl rfl (Nat.le_of_ble_eq_true rfl) (by omega) (by omega) (by omega) (by omega) (fun v M3 hq => ?_)
  obtain ⟨rfl, S3, P3, F3, I2⟩ := hq
  show GW G X 7 M3 kc ks 98 _ []
  refine g_aload C dX5_rule_98 rfl ?_
  refine g_iload C dX5_rule_100 rfl ?_
  refine g_callV (ci := 3) C dX5_rule_102 cw_X5_62 rfl (c_append G ad nr S1 S3 _ P3 r f 2 hr (by decide) (hf 2 (by decide)) I2) (P3.kru hr) rfl rfl (Nat.le_of_ble_eq_true rfl) (by omega) (by omega) (by omega) (by omega) (fun v M4 hq => ?_)
  obtain ⟨rfl, S4, P4, F4, I3⟩ := hq
  show GW G X 7 M4 kc ks 105 _ []
  refine g_aload C dX5_rule_105 rfl ?_
  refine g_iload C dX5_rule_107 rfl ?_
  refine g_callV (ci := 3) C dX5_rule_109 cw_X5_62 rfl (c_append G ad nr S1 S4 _ P4 r f 3 hr (by decide) (hf 3 (by decide)) I3) (P4.kru hr) rfl rfl (Nat.le_of_ble_eq_true rfl) (by omega) (by omega) (by omega) (by omega) (fun v M5 hq => ?_)
  obtain ⟨rfl, S5, P5, F5, I4⟩ := hq
  show GW G X 7 M5 kc ks 112 _ []
  have e5 : S5.2.2 0 = nI r := by rw [I4.2.2.1 0 (by omega) (by omega), b1.2.2, va_up_ne _ _ (by omega), va_up_ne _ _ (by omega), va_up_ne _ _ (by omega), va_up_ne _ _ (by omega)]; exact e0
  refine g_aload_n C dX5_rule_112 rfl ?_
  refine g_dup C dX5_rule_113 rfl ?_
  refine g_getf C fl_X5_21 dX5_rule_114 P5.klc rfl ?_
  rw [e5]
  refine g_iconst C dX5_rule_117 (v := nI 1) rfl ?_
  refine g_iadd C dX5_rule_118 ?_
  refine g_topI (nI_add r 1) ?_
  refine g_putf C fl_X5_21 rfl dX5_rule_119 P5.klc rfl rfl (Nat.le_of_ble_eq_true rfl) ?_
  refine g_abs (fun M' => ∃ S6, Pic G ad nr S6 M' ∧ Fr ad nr M M' ∧ scI S5 S6 0 (nI (r + 1))) ⟨_, P5.lc (i := 0) (by decide) _ rfl, ((((F1.tr F2).tr F3).tr F4).tr F5).st (t := 7) (k := 0) rfl, rfl, rfl, rfl⟩ (fun M6 ⟨S6, P6, F6, A6⟩ => ?_)
  refine g_aload_n C dX5_rule_122 rfl ?_
  refine g_callV (ci := 5) C dX5_rule_123 cw_X5_65 rfl (c_rulesChanged G ad nr S6 M6 P6) P6.klc rfl rfl (Nat.le_of_ble_eq_true rfl) (by omega) (by omega) (by omega) (by omega) (fun v M7 hq => ?_)
  obtain ⟨rfl, S7, P7, F7, d1, d2, d3⟩ := hq
  have e7 : S7.2.2 0 = nI (r + 1) := by rw [d3, va_up_ne _ _ (by omega), va_up_ne _ _ (by omega), A6.at]
  show GW G X 7 M7 kc ks 126 _ []
  refine g_aload_n C dX5_rule_126 rfl ?_
  refine g_getf C fl_X5_21 dX5_rule_127 P7.klc rfl ?_
  rw [e7]
  refine g_iconst C dX5_rule_130 (v := nI 1) rfl ?_
  refine g_isub C dX5_rule_131 ?_
  refine g_topI (pk_sub (show 1 ≤ r + 1 by omega)) ?_
  refine kk S7 M7 _ P7 (F6.tr F7) ?_
  subst hrr
  exact CR_rule ha h (by omega) hlf hf b1 I4 ⟨d1.trans A6.1, d2.trans A6.2.1, by rw [d3, A6.2.2]⟩

set_option maxHeartbeats 4000000 in
set_option maxRecDepth 100000 in
theorem c_rule_old (G : fm_G) (ad : Nat → Nat → Nat) (nr : Nat) (S : Cs) (M : fm_M) (Pi : Pic G ad nr S M) (a : Ab) (ha : AbOk a) (hnr : a.nR < nr) (h : CR a S) (lf : Nat) (f : Nat → Nat) (hlf : lf < 5) (hf : ∀ p, p < 4 → f p < 9) : fm_Ct G yX5_rule cX5_rule 7 (some .int) 4 73 0 0 [.ref (ad 7 0), .int (nI lf), .int (dn (f 0)), .int (dn (f 1)), .int (dn (f 2)), .int (dn (f 3))] M (fun v M1 => v = some (.int (nI a.nR)) ∧ ∃ S', Pic G ad nr S' M1 ∧ Fr ad nr M M1 ∧ CR (abR a lf f) S') := by
  have h10 := Pi.1
  have e0 : S.2.2 0 = nI a.nR := h.1.1
  refine fm_head (by decide) (Nat.le_of_ble_eq_true rfl) rfl (fun X C N0 rt => ?_)
  refine g_iload_n C dX5_rule_0 rfl ?_
  refine g_callS C dX5_rule_1 cw_X5_44 (c_rqN G _ lf hlf) rfl rfl (Nat.le_of_ble_eq_true rfl) (by decide) (by decide) (by decide) (by decide) (fun v M0 hq => ?_)
  obtain ⟨rfl, hM⟩ := hq
  rw [hM]
  clear hM
  show GW G X 7 _ 0 0 4 _ []
  refine g_iload_n C dX5_rule_4 rfl ?_
  refine g_callS C dX5_rule_5 cw_X5_48 (c_rqS G _ (f 0) (hf 0 (by decide))) rfl rfl (Nat.le_of_ble_eq_true rfl) (by decide) (by decide) (by decide) (by decide) (fun v M0 hq => ?_)
  obtain ⟨rfl, hM⟩ := hq
  rw [hM]
  clear hM
  show GW G X 7 _ 0 0 8 _ []
  refine g_iload_n C dX5_rule_8 rfl ?_
  refine g_callS C dX5_rule_9 cw_X5_48 (c_rqS G _ (f 1) (hf 1 (by decide))) rfl rfl (Nat.le_of_ble_eq_true rfl) (by decide) (by decide) (by decide) (by decide) (fun v M0 hq => ?_)
  obtain ⟨rfl, hM⟩ := hq
  rw [hM]
  clear hM
  show GW G X 7 _ 0 0 12 _ []
  refine g_iload C dX5_rule_12 rfl ?_
  refine g_callS C dX5_rule_14 cw_X5_48 (c_rqS G _ (f 2) (hf 2 (by decide))) rfl rfl (Nat.le_of_ble_eq_true rfl) (by decide) (by decide) (by decide) (by decide) (fun v M0 hq => ?_)
  obtain ⟨rfl, hM⟩ := hq
  rw [hM]
  clear hM
  show GW G X 7 _ 0 0 17 _ []
  refine g_iload C dX5_rule_17 rfl ?_
  refine g_callS C dX5_rule_19 cw_X5_48 (c_rqS G _ (f 3) (hf 3 (by decide))) rfl rfl (Nat.le_of_ble_eq_true rfl) (by decide) (by decide) (by decide) (by decide) (fun v M0 hq => ?_)
  obtain ⟨rfl, hM⟩ := hq
  rw [hM]
  clear hM
  show GW G X 7 _ 0 0 22 _ []
  refine g_aload_n C dX5_rule_22 rfl ?_
  refine g_getf C fl_X5_21 dX5_rule_23 Pi.klc rfl ?_
  rw [e0]
  refine g_bipush C dX5_rule_26 (v := nI 10) rfl ?_
  refine g_icmp_ltN C dX5_rule_28 (tgt := 41) (by decide) (by omega) (by decide) (fun hb => ?_) (fun hb => absurd hb (by omega))
  refine g_aload_n C dX5_rule_41 rfl ?_
  refine g_getf C fl_X5_17 dX5_rule_42 Pi.klc rfl ?_
  refine g_aload_n C dX5_rule_45 rfl ?_
  refine g_getf C fl_X5_21 dX5_rule_46 Pi.klc rfl ?_
  rw [e0]
  refine g_aaldN C dX5_rule_49 Pi.krus rfl (by omega) (by decide) (krus_at hnr) ?_
  refine g_ifnonnull C dX5_rule_50 (tgt := 69) (by decide) ?_
  exact l_rule (fr := 3) (lo := 43) C Pi ha hnr h (Nat.le_refl _) (Nat.le_refl _) hlf hf (fun S' M1 ls P1 F1 R1 => rt (some (.int _)) M1 _ _ _ ls (fm_retI dX5_rule_132) ⟨rfl, S', P1, F1, R1⟩ (Nat.le_refl _) (Nat.le_refl _))

set_option maxHeartbeats 4000000 in
set_option maxRecDepth 100000 in
theorem c_rule_new (G : fm_G) (ad : Nat → Nat → Nat) (nr : Nat) (S : Cs) (M : fm_M) (Pi : Pic G ad nr S M) (a : Ab) (ha : AbOk a) (hnr : a.nR = nr) (h9 : nr < 10) (h : CR a S) (lf : Nat) (f : Nat → Nat) (hlf : lf < 5) (hf : ∀ p, p < 4 → f p < 9) : fm_Ct G yX5_rule cX5_rule 7 (some .int) 4 73 33 2680 [.ref (ad 7 0), .int (nI lf), .int (dn (f 0)), .int (dn (f 1)), .int (dn (f 2)), .int (dn (f 3))] M (fun v M1 => v = some (.int (nI a.nR)) ∧ ∃ ad' S', Pic G ad' (nr + 1) S' M1 ∧ ad' 7 0 = ad 7 0 ∧ (∀ t k, liv (nr + 1) t k → (liv nr t k ∧ ad' t k = ad t k) ∨ M (ad' t k) = none) ∧ (∀ x e, (∀ t k, liv nr t k → x ≠ ad t k) → M x = some e → M1 x = some e) ∧ CR (abR a lf f) S') := by
  have h10 := Pi.1
  have e0 : S.2.2 0 = nI a.nR := h.1.1
  have hno : (fun r => if r < nr then some (ad 4 r) else none) a.nR = none := if_neg (by omega)
  refine fm_head (by decide) (Nat.le_of_ble_eq_true rfl) rfl (fun X C N0 rt => ?_)
  refine g_iload_n C dX5_rule_0 rfl ?_
  refine g_callS C dX5_rule_1 cw_X5_44 (c_rqN G _ lf hlf) rfl rfl (Nat.le_of_ble_eq_true rfl) (by decide) (by decide) (by decide) (by decide) (fun v M0 hq => ?_)
  obtain ⟨rfl, hM⟩ := hq
  rw [hM]
  clear hM
  show GW G X 7 _ 0 0 4 _ []
  refine g_iload_n C dX5_rule_4 rfl ?_
  refine g_callS C dX5_rule_5 cw_X5_48 (c_rqS G _ (f 0) (hf 0 (by decide))) rfl rfl (Nat.le_of_ble_eq_true rfl) (by decide) (by decide) (by decide) (by decide) (fun v M0 hq => ?_)
  obtain ⟨rfl, hM⟩ := hq
  rw [hM]
  clear hM
  show GW G X 7 _ 0 0 8 _ []
  refine g_iload_n C dX5_rule_8 rfl ?_
  refine g_callS C dX5_rule_9 cw_X5_48 (c_rqS G _ (f 1) (hf 1 (by decide))) rfl rfl (Nat.le_of_ble_eq_true rfl) (by decide) (by decide) (by decide) (by decide) (fun v M0 hq => ?_)
  obtain ⟨rfl, hM⟩ := hq
  rw [hM]
  clear hM
  show GW G X 7 _ 0 0 12 _ []
  refine g_iload C dX5_rule_12 rfl ?_
  refine g_callS C dX5_rule_14 cw_X5_48 (c_rqS G _ (f 2) (hf 2 (by decide))) rfl rfl (Nat.le_of_ble_eq_true rfl) (by decide) (by decide) (by decide) (by decide) (fun v M0 hq => ?_)
  obtain ⟨rfl, hM⟩ := hq
  rw [hM]
  clear hM
  show GW G X 7 _ 0 0 17 _ []
  refine g_iload C dX5_rule_17 rfl ?_
  refine g_callS C dX5_rule_19 cw_X5_48 (c_rqS G _ (f 3) (hf 3 (by decide))) rfl rfl (Nat.le_of_ble_eq_true rfl) (by decide) (by decide) (by decide) (by decide) (fun v M0 hq => ?_)
  obtain ⟨rfl, hM⟩ := hq
  rw [hM]
  clear hM
  show GW G X 7 _ 0 0 22 _ []
  refine g_aload_n C dX5_rule_22 rfl ?_
  refine g_getf C fl_X5_21 dX5_rule_23 Pi.klc rfl ?_
  rw [e0]
  refine g_bipush C dX5_rule_26 (v := nI 10) rfl ?_
  refine g_icmp_ltN C dX5_rule_28 (tgt := 41) (by decide) (by omega) (by decide) (fun hb => ?_) (fun hb => absurd hb (by omega))
  refine g_aload_n C dX5_rule_41 rfl ?_
  refine g_getf C fl_X5_17 dX5_rule_42 Pi.klc rfl ?_
  refine g_aload_n C dX5_rule_45 rfl ?_
  refine g_getf C fl_X5_21 dX5_rule_46 Pi.klc rfl ?_
  rw [e0]
  refine g_aaldZ C dX5_rule_49 Pi.krus rfl (by omega) (by decide) hno ?_
  refine g_ifnonnullN C dX5_rule_50 ?_
  refine g_aload_n C dX5_rule_53 rfl ?_
  refine g_getf C fl_X5_17 dX5_rule_54 Pi.klc rfl ?_
  refine g_aload_n C dX5_rule_57 rfl ?_
  refine g_getf C fl_X5_21 dX5_rule_58 Pi.klc rfl ?_
  rw [e0]
  refine g_new C cl_X5_15 dX5_rule_61 (by decide) (by decide) (fun q hq => ?_)
  refine g_dup C dX5_rule_64 rfl ?_
  refine g_callI C dX5_rule_65 cw_X5_58 (c_R_init G q _ (fm_set_eq _ _ _)) rfl rfl (Nat.le_of_ble_eq_true rfl) (by decide) (by decide) (by decide) (by decide) (fun v M1 hp => ?_)
  obtain ⟨rfl, b, N1⟩ := hp
  obtain ⟨P2, old, nfr, keep⟩ := Pic_ext Pi h9 hq N1
  show GW G X 7 M1 33 2680 68 _ [.ref q, .int (nI a.nR), .ref (ad 9 0)]
  refine g_aast C dX5_rule_68 (keep _ _ Pi.krus) rfl N1.1 (ci := 3) rfl (by omega) (by decide) ?_
  rw [hnr]
  have F2 : ∀ x e, (∀ t k, liv nr t k → x ≠ ad t k) → M x = some e → (fm_set M1 (ad 9 0) (fm_R G 4 10 (va_up (fun r => if r < nr then some (ad 4 r) else none) nr (some q)))) x = some e := fun x e hx he => by
    rw [fm_set_ne _ _ (hx 9 0 rfl)]; exact keep x e he
  generalize fm_set M1 (ad 9 0) (fm_R G 4 10 (va_up (fun r => if r < nr then some (ad 4 r) else none) nr (some q))) = M2 at P2 F2 ⊢
  generalize adR ad b q nr = ad' at P2 old nfr
  have o7 : ad' 7 0 = ad 7 0 := old 7 0 rfl
  have R2 : CR a (Sx nr S) := by
    obtain ⟨h1, h2, h3, h4, h5⟩ := h
    have sc : ∀ i, i ≠ 10 + nr → i ≠ 20 + nr → i ≠ 30 + nr → i ≠ 40 + nr → (Sx nr S).2.2 i = S.2.2 i := fun i z1 z2 z3 z4 => if_neg (by omega)
    have ar : ∀ j, j ≠ 10 + nr → ¬ (20 + 5 * nr ≤ j ∧ j < 25 + 5 * nr) → (Sx nr S).2.1 j = S.2.1 j := fun j z1 z2 => if_neg (by omega)
    have pl : ∀ k, ¬ (15 + 10 * nr ≤ k ∧ k < 25 + 10 * nr) → (Sx nr S).1 k = S.1 k := fun k z => if_neg z
    refine ⟨⟨?_, fun r hr => ?_⟩, fun r hr => ?_, ?_, fun t ht => ?_, ?_⟩
    · rw [sc 0 (by omega) (by omega) (by omega) (by omega)]; exact e0
    · have hr2 : r < a.nR := hr
      obtain ⟨a1, a2, a3, a4, a5, a6, a7⟩ := h1.2 r hr
      exact ⟨by rw [sc _ (by omega) (by omega) (by omega) (by omega)]; exact a1, a2, by rw [sc _ (by omega) (by omega) (by omega) (by omega)]; exact a3, a4, by rw [sc _ (by omega) (by omega) (by omega) (by omega)]; exact a5, a6, fun i hi => ⟨(a7 i hi).1, by rw [ar _ (by omega) (by omega)]; exact (a7 i hi).2⟩⟩
    · rw [sc _ (by omega) (by omega) (by omega) (by omega)]; exact h2 r hr
    · rw [sc _ (by omega) (by omega) (by omega) (by omega)]; exact h3
    · rw [ar _ (by omega) (by omega)]; exact h4 t ht
    · rw [sc _ (by omega) (by omega) (by omega) (by omega)]
      rcases h5 with h5 | ⟨h5, H, w2, w3, w4⟩
      · exact Or.inl h5
      · refine Or.inr ⟨h5, H, w2, ⟨fun n hn => ⟨(w3.1 n hn).1.of (pl _ (by omega)) (pl _ (by omega)), fun c hc => ?_⟩, fun r hr i hi => ?_⟩, w4⟩
        · rw [pl _ (by omega), ar n (by omega) (by omega), ar (5 + n) (by omega) (by omega)]
          exact (w3.1 n hn).2 c hc
        · have hr2 : r < a.nR := hr
          have hi2 : i ≤ nz (a.sy r) 4 := hi
          have := nz_le (a.sy r) 4
          exact (w3.2 r hr i hi).of (pl _ (by omega)) (pl _ (by omega)) (ar _ (by omega) (by omega))
  rw [← o7]
  refine l_rule (fr := 3) (lo := 43) C P2 ha (by omega) R2 (Nat.le_refl _) (Nat.le_refl _) hlf hf (fun S' M3 ls P3 F3 R3 => rt (some (.int _)) M3 _ _ _ ls (fm_retI dX5_rule_132) ⟨rfl, ad', S', P3, o7, fun t k hl => ?_, fun x e hx he => ?_, R3⟩ (Nat.le_refl _) (Nat.le_refl _))
  · by_cases ho : liv nr t k
    · exact Or.inl ⟨ho, old t k ho⟩
    · exact Or.inr (nfr t k hl ho)
  · rw [F3 x (fun t k hl => ?_)]
    · exact F2 x e hx he
    · by_cases ho : liv nr t k
      · rw [old t k ho]; exact hx t k ho
      · intro z
        have := nfr t k hl ho
        rw [← z, he] at this
        cases this
