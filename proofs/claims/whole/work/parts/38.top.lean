/-! LetterCounts: the calls that are not refused -/
theorem fm_Ct.mono {G : fm_G} {y : MethodName} {cy : ByteArray} {maxL : Nat} {ret : Option FieldType} {fr lo mc ms : Nat} {av : List Value} {M : fm_M} {post post' : Option Value → fm_M → Prop} (K : fm_Ct G y cy maxL ret fr lo mc ms av M post) (h : ∀ v M1, post v M1 → post' v M1) : fm_Ct G y cy maxL ret fr lo mc ms av M post' := by
  intro sz p e h1 h2 h3 s m args below h4 h5 h6 h7
  obtain ⟨n, o, k1, k2, k3, ⟨⟨v, M1, q1, q2, q3⟩, q4⟩, k5⟩ := K sz p e h1 h2 h3 s m args below h4 h5 h6 h7
  exact ⟨n, o, k1, k2, k3, ⟨⟨v, M1, q1, h v M1 q2, q3⟩, q4⟩, k5⟩
theorem wk_tr {g : Gr} {S : Cs} (hw : wkI g S) : ∃ H, H < 4000 ∧ CI g H S ∧ ∀ n c, Tr g n c ↔ Hh g H n c := by
  obtain ⟨H, h1, h2, h3⟩ := hw
  refine ⟨H, h1, h2, fun n c => ⟨fun ⟨k, hk⟩ => ?_, fun z => ⟨H, z⟩⟩⟩
  by_cases hz : H ≤ k
  · exact h3 k hz _ _ hk
  · exact Hh_mono g (by omega) hk
theorem wk_had {g : Gr} {S : Cs} (hw : wkI g S) {n c : Nat} (hn : n < 5) (hc : c < 512) : bq (S.1 (3 * n)) c = true ↔ Tr g n c := by
  obtain ⟨H, h1, h2, h3⟩ := wk_tr hw
  rw [h3]
  exact ((h2.1 n hn).1 c hc).1
theorem wk_ht {g : Gr} {S : Cs} (hw : wkI g S) {n c : Nat} (hn : n < 5) (hc : c < 512) : (Tr g n c ∧ S.2.1 n c = nI (hgt g n c) ∧ hgt g n c < 4000) ∨ (¬ Tr g n c ∧ S.2.1 n c = NEV) := by
  obtain ⟨H, h1, h2, h3⟩ := wk_tr hw
  have hL := ((h2.1 n hn).2 c hc).2.1
  by_cases hz : Hh g H n c
  · obtain ⟨e1, e2⟩ := LT_hgt hL hz
    exact Or.inl ⟨(h3 n c).mpr hz, e1, by omega⟩
  · refine Or.inr ⟨fun z => hz ((h3 n c).mp z), ?_⟩
    rcases hL with ⟨q1, q2⟩ | ⟨j, q1, q2, q3, q4⟩
    · exact q2
    · exact absurd (Hh_mono g (by omega) q2) hz
/-- how many counts a nonterminal has, of the first m -/
noncomputable def mny (g : Gr) (n m : Nat) : Nat := cntP (Tr g n) m
theorem wk_cnt {g : Gr} {S : Cs} (hw : wkI g S) {n : Nat} (hn : n < 5) {m : Nat} (hm : m ≤ 512) : cntq (bq (S.1 (3 * n))) m = mny g n m := by
  refine cntq_congr (fun j hj => ?_)
  have := wk_had hw hn (show j < 512 by omega)
  cases hb : bq (S.1 (3 * n)) j with
  | true => exact (@decide_eq_true _ (Classical.propDecidable _) (this.mp hb)).symm
  | false => exact (@decide_eq_false _ (Classical.propDecidable _) (fun z => by rw [this.mpr z] at hb; cases hb)).symm
theorem CR.T {a : Ab} {S S' : Cs} (ha : AbOk a) (hT : eqT S S') (h : CR a S) : CR a S' := by
  obtain ⟨h1, h2, h3, h4, h5⟩ := h
  have h10 := ha.1
  refine ⟨hT.ru h10 h1, fun r hr => ?_, ?_, fun t ht => ?_, ?_⟩
  · rw [hT.2.2 _ (by omega) (by omega)]; exact h2 r hr
  · rw [hT.2.2 _ (by omega) (by omega)]; exact h3
  · rw [hT.2.1 _ (by omega)]; exact h4 t ht
  · rw [hT.2.2 _ (by omega) (by omega)]
    rcases h5 with h5 | ⟨h5, h6⟩
    · exact Or.inl h5
    · exact Or.inr ⟨h5, hT.wk (gO_ok ha) h6⟩

set_option maxHeartbeats 4000000 in
set_option maxRecDepth 100000 in
theorem c_rulesChanged (G : fm_G) (ad : Nat → Nat → Nat) (nr : Nat) (S : Cs) (M : fm_M) (Pi : Pic G ad nr S M) : fm_Ct G yX5_rulesChanged cX5_rulesChanged 1 none 0 0 0 0 [.ref (ad 7 0)] M (fun v M1 => v = none ∧ ∃ S', Pic G ad nr S' M1 ∧ Fr ad nr M M1 ∧ S'.1 = S.1 ∧ S'.2.1 = S.2.1 ∧ S'.2.2 = va_up (va_up S.2.2 1 (nI 1)) 2 (nI 0)) := by
  refine fm_head (by decide) (Nat.le_of_ble_eq_true rfl) rfl (fun X C N0 rt => ?_)
  refine g_aload_n C dX5_rulesChanged_0 rfl ?_
  refine g_iconst C dX5_rulesChanged_1 (v := nI 1) rfl ?_
  refine g_putf C fl_X5_25 rfl dX5_rulesChanged_2 Pi.klc rfl rfl (Nat.le_of_ble_eq_true rfl) ?_
  refine g_abs (fun M' => ∃ S1, Pic G ad nr S1 M' ∧ Fr ad nr M M' ∧ scI S S1 1 (nI 1)) ⟨_, Pi.lc (i := 1) (by decide) _ rfl, Fr.rf.st (t := 7) (k := 0) rfl, rfl, rfl, rfl⟩ (fun M1 ⟨S1, P1, F1, A1⟩ => ?_)
  refine g_aload_n C dX5_rulesChanged_5 rfl ?_
  refine g_iconst C dX5_rulesChanged_6 (v := nI 0) rfl ?_
  refine g_putf C fl_X5_33 rfl dX5_rulesChanged_7 P1.klc rfl rfl (Nat.le_of_ble_eq_true rfl) ?_
  refine rt none _ _ _ _ _ (fm_retV dX5_rulesChanged_10) ⟨rfl, _, P1.lc (i := 2) (by decide) (nI 0) rfl, F1.st (t := 7) (k := 0) rfl, A1.1, A1.2.1, ?_⟩ (Nat.le_refl _) (Nat.le_refl _)
  show va_up S1.2.2 2 _ = _
  rw [A1.2.2]

set_option maxHeartbeats 4000000 in
set_option maxRecDepth 100000 in
theorem c_clear (G : fm_G) (ad : Nat → Nat → Nat) (nr : Nat) (S : Cs) (M : fm_M) (Pi : Pic G ad nr S M) (a : Ab) (h : CR a S) : fm_Ct G yX5_clear cX5_clear 1 none 1 20 0 0 [.ref (ad 7 0)] M (fun v M1 => v = none ∧ ∃ S', Pic G ad nr S' M1 ∧ Fr ad nr M M1 ∧ CR (0, a.lf, a.sy, a.us, 0, a.sp) S') := by
  refine fm_head (by decide) (Nat.le_of_ble_eq_true rfl) rfl (fun X C N0 rt => ?_)
  refine g_aload_n C dX5_clear_0 rfl ?_
  refine g_iconst C dX5_clear_1 (v := nI 0) rfl ?_
  refine g_putf C fl_X5_21 rfl dX5_clear_2 Pi.klc rfl rfl (Nat.le_of_ble_eq_true rfl) ?_
  refine g_abs (fun M' => ∃ S1, Pic G ad nr S1 M' ∧ Fr ad nr M M' ∧ scI S S1 0 (nI 0)) ⟨_, Pi.lc (i := 0) (by decide) _ rfl, Fr.rf.st (t := 7) (k := 0) rfl, rfl, rfl, rfl⟩ (fun M1 ⟨S1, P1, F1, A1⟩ => ?_)
  refine g_aload_n C dX5_clear_5 rfl ?_
  refine g_callV (ci := 5) C dX5_clear_6 cw_X5_65 rfl (c_rulesChanged G ad nr S1 M1 P1) P1.klc rfl rfl (Nat.le_of_ble_eq_true rfl) (by decide) (by decide) (by decide) (by decide) (fun v M2 hq => ?_)
  obtain ⟨rfl, S2, P2, F2, b1, b2, b3⟩ := hq
  refine rt none M2 _ _ _ _ (fm_retV dX5_clear_9) ⟨rfl, S2, P2, F1.tr F2, ⟨?_, fun r hr => absurd hr (Nat.not_lt_zero r)⟩, fun r hr => absurd hr (Nat.not_lt_zero r), ?_, fun r hr => absurd hr (Nat.not_lt_zero r), Or.inl ?_⟩ (Nat.le_refl _) (Nat.le_refl _)
  · rw [b3, va_up_ne _ _ (by decide), va_up_ne _ _ (by decide), A1.at]; rfl
  · rw [b3, va_up_self]
  · rw [b3, va_up_ne _ _ (by decide), va_up_self]; rfl

set_option maxHeartbeats 4000000 in
set_option maxRecDepth 100000 in
theorem c_rqN (G : fm_G) (M : fm_M) (n : Nat) (hn : n < 5) : fm_Ct G yX5_requireNonterminal cX5_requireNonterminal 1 none 0 0 0 0 [.int (nI n)] M (fun v M1 => v = none ∧ M1 = M) := by
  refine fm_head (by decide) (Nat.le_of_ble_eq_true rfl) rfl (fun X C N0 rt => ?_)
  refine g_iload_n C dX5_requireNonterminal_0 rfl ?_
  refine g_if_lt C dX5_requireNonterminal_1 (tgt := 9) (by decide) (fun hb => absurd hb (nI_pos (by omega))) (fun hb => ?_)
  refine g_iload_n C dX5_requireNonterminal_4 rfl ?_
  refine g_iconst C dX5_requireNonterminal_5 (v := nI 5) rfl ?_
  refine g_icmp_ltN C dX5_requireNonterminal_6 (tgt := 19) (by decide) (by omega) (by decide) (fun hb => ?_) (fun hb => absurd hb (by omega))
  exact rt none M _ _ _ _ (fm_retV dX5_requireNonterminal_19) ⟨rfl, rfl⟩ (Nat.le_refl _) (Nat.le_refl _)

set_option maxHeartbeats 4000000 in
set_option maxRecDepth 100000 in
theorem dn_ok : ∀ k, k < 9 → ¬ dn k < -1 ∧ dn k ≤ nI 7 := by decide +kernel
theorem c_rqS (G : fm_G) (M : fm_M) (k : Nat) (hk : k < 9) : fm_Ct G yX5_requireSymbol cX5_requireSymbol 1 none 0 0 0 0 [.int (dn k)] M (fun v M1 => v = none ∧ M1 = M) := by
  refine fm_head (by decide) (Nat.le_of_ble_eq_true rfl) rfl (fun X C N0 rt => ?_)
  refine g_iload_n C dX5_requireSymbol_0 rfl ?_
  refine g_iconst C dX5_requireSymbol_1 (v := -1) rfl ?_
  refine g_icmp_lt C dX5_requireSymbol_2 (tgt := 11) (by decide) (fun hb => absurd hb (dn_ok k hk).1) (fun hb => ?_)
  refine g_iload_n C dX5_requireSymbol_5 rfl ?_
  refine g_bipush C dX5_requireSymbol_6 (v := nI 7) rfl ?_
  refine g_icmp_le C dX5_requireSymbol_8 (tgt := 21) (by decide) (fun hb => ?_) (fun hb => absurd (dn_ok k hk).2 hb)
  exact rt none M _ _ _ _ (fm_retV dX5_requireSymbol_21) ⟨rfl, rfl⟩ (Nat.le_refl _) (Nat.le_refl _)

set_option maxHeartbeats 4000000 in
set_option maxRecDepth 100000 in
theorem c_rqM (G : fm_G) (M : fm_M) (n : Nat) (hn : n < 8) : fm_Ct G yX5_requireNumber cX5_requireNumber 1 none 0 0 0 0 [.int (nI n)] M (fun v M1 => v = none ∧ M1 = M) := by
  refine fm_head (by decide) (Nat.le_of_ble_eq_true rfl) rfl (fun X C N0 rt => ?_)
  refine g_iload_n C dX5_requireNumber_0 rfl ?_
  refine g_if_lt C dX5_requireNumber_1 (tgt := 10) (by decide) (fun hb => absurd hb (nI_pos (by omega))) (fun hb => ?_)
  refine g_iload_n C dX5_requireNumber_4 rfl ?_
  refine g_bipush C dX5_requireNumber_5 (v := nI 7) rfl ?_
  refine g_icmp_leN C dX5_requireNumber_7 (tgt := 20) (by decide) (by omega) (by decide) (fun hb => ?_) (fun hb => absurd hb (by omega))
  exact rt none M _ _ _ _ (fm_retV dX5_requireNumber_20) ⟨rfl, rfl⟩ (Nat.le_refl _) (Nat.le_refl _)

set_option maxHeartbeats 4000000 in
set_option maxRecDepth 100000 in
theorem c_countOf (G : fm_G) (M : fm_M) (x y z : Nat) (hx : x < 8) (hy : y < 8) (hz : z < 8) : fm_Ct G yX5_countOf cX5_countOf 3 (some .int) 1 20 0 0 [.int (nI x), .int (nI y), .int (nI z)] M (fun v M1 => v = some (.int (nI (x + 8 * y + 64 * z))) ∧ M1 = M) := by
  refine fm_head (by decide) (Nat.le_of_ble_eq_true rfl) rfl (fun X C N0 rt => ?_)
  refine g_iload_n C dX5_countOf_0 rfl ?_
  refine g_callS C dX5_countOf_1 cw_X5_159 (c_rqM G M x hx) rfl rfl (Nat.le_of_ble_eq_true rfl) (by decide) (by decide) (by decide) (by decide) (fun v M1 hq => ?_)
  obtain ⟨rfl, rfl⟩ := hq
  show GW G X 3 _ 0 0 4 _ []
  refine g_iload_n C dX5_countOf_4 rfl ?_
  refine g_callS C dX5_countOf_5 cw_X5_159 (c_rqM G _ y hy) rfl rfl (Nat.le_of_ble_eq_true rfl) (by decide) (by decide) (by decide) (by decide) (fun v M1 hq => ?_)
  obtain ⟨rfl, rfl⟩ := hq
  show GW G X 3 _ 0 0 8 _ []
  refine g_iload_n C dX5_countOf_8 rfl ?_
  refine g_callS C dX5_countOf_9 cw_X5_159 (c_rqM G _ z hz) rfl rfl (Nat.le_of_ble_eq_true rfl) (by decide) (by decide) (by decide) (by decide) (fun v M1 hq => ?_)
  obtain ⟨rfl, rfl⟩ := hq
  show GW G X 3 _ 0 0 12 _ []
  refine g_iload_n C dX5_countOf_12 rfl ?_
  refine g_bipush C dX5_countOf_13 (v := nI 8) rfl ?_
  refine g_iload_n C dX5_countOf_15 rfl ?_
  refine g_imul C dX5_countOf_16 ?_
  refine g_topI (pk_mul 8 y) ?_
  refine g_iadd C dX5_countOf_17 ?_
  refine g_topI (nI_add _ _) ?_
  refine g_bipush C dX5_countOf_18 (v := nI 64) rfl ?_
  refine g_iload_n C dX5_countOf_20 rfl ?_
  refine g_imul C dX5_countOf_21 ?_
  refine g_topI (pk_mul 64 z) ?_
  refine g_iadd C dX5_countOf_22 ?_
  refine g_topI (nI_add _ _) ?_
  exact rt (some (.int _)) _ _ _ _ _ (fm_retI dX5_countOf_23) ⟨rfl, rfl⟩ (Nat.le_refl _) (Nat.le_refl _)

set_option maxHeartbeats 4000000 in
set_option maxRecDepth 100000 in
theorem c_workOut (G : fm_G) (ad : Nat → Nat → Nat) (nr : Nat) (S : Cs) (M : fm_M) (Pi : Pic G ad nr S M) (a : Ab) (ha : AbOk a) (hnr : a.nR ≤ nr) (h : CR a S) : fm_Ct G yX5_workOut cX5_workOut 3 none 5 121 0 0 [.ref (ad 7 0)] M (fun v M1 => v = none ∧ ∃ S', Pic G ad nr S' M1 ∧ Fr ad nr M M1 ∧ CR a S' ∧ wkI (gO a) S') := by
  have h0 := h
  obtain ⟨h1, h2, h3, h4, h5⟩ := h
  rcases h5 with h5 | ⟨h5, h6⟩
  · refine (c_workOut_1 G ad nr S M Pi (gO a) (gO_ok ha) hnr h1 h5).mono ?_
    rintro v M1 ⟨rfl, S', P1, F1, W1, D1⟩
    have w1 : wkI (gO a) (S'.1, S'.2.1, va_up S'.2.2 1 0) := D1.wk.of (gO_ok ha) rfl (fun _ _ => rfl)
    have R1 := h1.of W1 ha.1
    have h10 := ha.1
    refine ⟨rfl, _, P1, F1, ⟨⟨?_, fun r hr => ?_⟩, fun r hr => ?_, ?_, fun t ht => ?_, Or.inr ⟨(show va_up S'.2.2 1 0 1 = 0 from va_up_self _ _ _), w1⟩⟩, w1⟩
    · show va_up S'.2.2 1 0 0 = _
      rw [va_up_ne _ _ (by decide)]; exact R1.1
    · have hr' : r < a.nR := hr
      obtain ⟨a1, a2, a3, a4, a5, a6, a7⟩ := R1.2 r hr
      exact ⟨by show va_up S'.2.2 1 0 _ = _; rw [va_up_ne _ _ (by omega)]; exact a1, a2, by show va_up S'.2.2 1 0 _ = _; rw [va_up_ne _ _ (by omega)]; exact a3, a4, by show va_up S'.2.2 1 0 _ = _; rw [va_up_ne _ _ (by omega)]; exact a5, a6, a7⟩
    · show va_up S'.2.2 1 0 _ = _
      rw [va_up_ne _ _ (by omega), W1.2.2]; exact h2 r hr
    · show va_up S'.2.2 1 0 2 = _
      rw [va_up_ne _ _ (by decide), W1.2.2]; exact h3
    · show S'.2.1 70 t = _
      rw [W1.2.1 70 (by omega)]; exact h4 t ht
  · refine (c_workOut_0 G ad nr S M Pi h5).mono ?_
    rintro v M1 ⟨rfl, rfl⟩
    exact ⟨rfl, S, Pi, Fr.rf, h0, h6⟩

set_option maxHeartbeats 4000000 in
set_option maxRecDepth 100000 in
theorem c_height (G : fm_G) (ad : Nat → Nat → Nat) (nr : Nat) (S : Cs) (M : fm_M) (Pi : Pic G ad nr S M) (a : Ab) (ha : AbOk a) (hnr : a.nR ≤ nr) (h : CR a S) (n x y z : Nat) (hn : n < 5) (hx : x < 8) (hy : y < 8) (hz : z < 8) : fm_Ct G yX5_height cX5_height 7 (some .int) 6 143 0 0 [.ref (ad 7 0), .int (nI n), .int (nI x), .int (nI y), .int (nI z)] M (fun v M1 => ∃ S' i, v = some (.int i) ∧ HT (gO a) n (x + 8 * y + 64 * z) i ∧ Pic G ad nr S' M1 ∧ Fr ad nr M M1 ∧ CR a S') := by
  have hc : x + 8 * y + 64 * z < 512 := by omega
  have l1 : liv nr 2 n := Or.inl (by omega)
  refine fm_head (by decide) (Nat.le_of_ble_eq_true rfl) rfl (fun X C N0 rt => ?_)
  refine g_iload_n C dX5_height_0 rfl ?_
  refine g_callS C dX5_height_1 cw_X5_44 (c_rqN G _ n hn) rfl rfl (Nat.le_of_ble_eq_true rfl) (by decide) (by decide) (by decide) (by decide) (fun v M0 hq => ?_)
  obtain ⟨rfl, rfl⟩ := hq
  show GW G X 7 _ 0 0 4 _ []
  refine g_iload_n C dX5_height_4 rfl ?_
  refine g_iload_n C dX5_height_5 rfl ?_
  refine g_iload C dX5_height_6 rfl ?_
  refine g_callS C dX5_height_8 cw_X5_68 (c_countOf G _ x y z hx hy hz) rfl rfl (Nat.le_of_ble_eq_true rfl) (by decide) (by decide) (by decide) (by decide) (fun v M0 hq => ?_)
  obtain ⟨rfl, rfl⟩ := hq
  show GW G X 7 _ 0 0 11 _ [.int (nI (x + 8 * y + 64 * z))]
  refine g_istore C dX5_height_11 (by decide) ?_
  refine g_aload_n C dX5_height_13 rfl ?_
  refine g_callV (ci := 5) C dX5_height_14 cw_X5_72 rfl (c_workOut G ad nr S _ Pi a ha hnr h) Pi.klc rfl rfl (Nat.le_of_ble_eq_true rfl) (by decide) (by decide) (by decide) (by decide) (fun v M1 hq => ?_)
  obtain ⟨rfl, S1, P1, F1, R1, w1⟩ := hq
  show GW G X 7 M1 0 0 17 _ []
  refine g_aload_n C dX5_height_17 rfl ?_
  refine g_getf C fl_X5_11 dX5_height_18 P1.klc rfl ?_
  refine g_iload_n C dX5_height_21 rfl ?_
  refine g_aaldN C dX5_height_22 P1.knts rfl hn (by decide) (knts_at hn) ?_
  refine g_getf C fl_X5_75 dX5_height_23 (P1.knt hn) rfl ?_
  refine g_iload C dX5_height_26 rfl ?_
  refine g_ialdN C dX5_height_28 (P1.kar l1 (lenA_h (by omega))) hc (by decide) ?_
  refine g_istore C dX5_height_29 (by decide) ?_
  refine g_iload C dX5_height_31 rfl ?_
  refine g_ldc C dX5_height_33 kc_X5_78 ?_
  rcases wk_ht w1 hn hc with ⟨q1, q2, q3⟩ | ⟨q1, q2⟩
  · refine g_icmp_ne C dX5_height_35 (tgt := 42) (by decide) (fun hb => ?_) (fun hb => absurd (q2.symm.trans hb) (nI_NEV (by omega)))
    refine g_iload C dX5_height_42 rfl ?_
    exact rt (some (.int _)) M1 _ _ _ _ (fm_retI dX5_height_44) ⟨S1, _, rfl, Or.inl ⟨q1, q2⟩, P1, F1, R1⟩ (Nat.le_refl _) (Nat.le_refl _)
  · refine g_icmp_ne C dX5_height_35 (tgt := 42) (by decide) (fun hb => absurd q2 hb) (fun hb => ?_)
    refine g_iconst C dX5_height_38 (v := -1) rfl ?_
    refine g_goto C dX5_height_39 (tgt := 44) (by decide) ?_
    exact rt (some (.int _)) M1 _ _ _ _ (fm_retI dX5_height_44) ⟨S1, _, rfl, Or.inr ⟨q1, rfl⟩, P1, F1, R1⟩ (Nat.le_refl _) (Nat.le_refl _)

set_option maxHeartbeats 4000000 in
set_option maxRecDepth 100000 in
theorem c_many (G : fm_G) (ad : Nat → Nat → Nat) (nr : Nat) (S : Cs) (M : fm_M) (Pi : Pic G ad nr S M) (a : Ab) (ha : AbOk a) (hnr : a.nR ≤ nr) (h : CR a S) (n : Nat) (hn : n < 5) : fm_Ct G yX5_many cX5_many 2 (some .int) 6 143 0 0 [.ref (ad 7 0), .int (nI n)] M (fun v M1 => ∃ S', v = some (.int (nI (mny (gO a) n 512))) ∧ Pic G ad nr S' M1 ∧ Fr ad nr M M1 ∧ CR a S') := by
  have hl : 3 * n < 15 + 10 * nr := by omega
  refine fm_head (by decide) (Nat.le_of_ble_eq_true rfl) rfl (fun X C N0 rt => ?_)
  refine g_iload_n C dX5_many_0 rfl ?_
  refine g_callS C dX5_many_1 cw_X5_44 (c_rqN G _ n hn) rfl rfl (Nat.le_of_ble_eq_true rfl) (by decide) (by decide) (by decide) (by decide) (fun v M0 hq => ?_)
  obtain ⟨rfl, rfl⟩ := hq
  show GW G X 2 _ 0 0 4 _ []
  refine g_aload_n C dX5_many_4 rfl ?_
  refine g_callV (ci := 5) C dX5_many_5 cw_X5_72 rfl (c_workOut G ad nr S _ Pi a ha hnr h) Pi.klc rfl rfl (Nat.le_of_ble_eq_true rfl) (by decide) (by decide) (by decide) (by decide) (fun v M1 hq => ?_)
  obtain ⟨rfl, S1, P1, F1, R1, w1⟩ := hq
  show GW G X 2 M1 0 0 8 _ []
  refine g_aload_n C dX5_many_8 rfl ?_
  refine g_getf C fl_X5_11 dX5_many_9 P1.klc rfl ?_
  refine g_iload_n C dX5_many_12 rfl ?_
  refine g_aaldN C dX5_many_13 P1.knts rfl hn (by decide) (knts_at hn) ?_
  refine g_getf C fl_X5_79 dX5_many_14 (P1.knt hn) rfl ?_
  refine g_callV (ci := 0) C dX5_many_17 cw_X5_83 rfl (c_size G _ _ M1 _ (P1.kset hl) (P1.kpl hl)) (P1.kset hl) rfl rfl (Nat.le_of_ble_eq_true rfl) (by decide) (by decide) (by decide) (by decide) (fun v M2 hq => ?_)
  obtain ⟨rfl, rfl⟩ := hq
  have e : cntg (S1.1 (3 * n)) = mny (gO a) n 512 := wk_cnt w1 hn (Nat.le_refl _)
  refine rt (some (.int _)) M2 _ _ _ _ (fm_retI dX5_many_20) ⟨S1, ?_, P1, F1, R1⟩ (Nat.le_refl _) (Nat.le_refl _)
  rw [e]

set_option maxHeartbeats 4000000 in
set_option maxRecDepth 100000 in
theorem c_count (G : fm_G) (ad : Nat → Nat → Nat) (nr : Nat) (S : Cs) (M : fm_M) (Pi : Pic G ad nr S M) (a : Ab) (ha : AbOk a) (hnr : a.nR ≤ nr) (h : CR a S) (n k : Nat) (hn : n < 5) (hk : k < mny (gO a) n 512) : fm_Ct G yX5_count cX5_count 4 (some .int) 6 143 0 0 [.ref (ad 7 0), .int (nI n), .int (nI k)] M (fun v M1 => ∃ S' c, c < 512 ∧ Tr (gO a) n c ∧ mny (gO a) n c = k ∧ v = some (.int (nI c)) ∧ Pic G ad nr S' M1 ∧ Fr ad nr M M1 ∧ CR a S') := by
  have hl : 3 * n < 15 + 10 * nr := by omega
  have hk5 : mny (gO a) n 512 ≤ 512 := cntq_le _ _
  refine fm_head (by decide) (Nat.le_of_ble_eq_true rfl) rfl (fun X C N0 rt => ?_)
  refine g_iload_n C dX5_count_0 rfl ?_
  refine g_callS C dX5_count_1 cw_X5_44 (c_rqN G _ n hn) rfl rfl (Nat.le_of_ble_eq_true rfl) (by decide) (by decide) (by decide) (by decide) (fun v M0 hq => ?_)
  obtain ⟨rfl, rfl⟩ := hq
  show GW G X 4 _ 0 0 4 _ []
  refine g_aload_n C dX5_count_4 rfl ?_
  refine g_callV (ci := 5) C dX5_count_5 cw_X5_72 rfl (c_workOut G ad nr S _ Pi a ha hnr h) Pi.klc rfl rfl (Nat.le_of_ble_eq_true rfl) (by decide) (by decide) (by decide) (by decide) (fun v M1 hq => ?_)
  obtain ⟨rfl, S1, P1, F1, R1, w1⟩ := hq
  show GW G X 4 M1 0 0 8 _ []
  have e : cntg (S1.1 (3 * n)) = mny (gO a) n 512 := wk_cnt w1 hn (Nat.le_refl _)
  refine g_aload_n C dX5_count_8 rfl ?_
  refine g_getf C fl_X5_11 dX5_count_9 P1.klc rfl ?_
  refine g_iload_n C dX5_count_12 rfl ?_
  refine g_aaldN C dX5_count_13 P1.knts rfl hn (by decide) (knts_at hn) ?_
  refine g_getf C fl_X5_79 dX5_count_14 (P1.knt hn) rfl ?_
  refine g_astore_n C dX5_count_17 (by decide) ?_
  refine g_iload_n C dX5_count_18 rfl ?_
  refine g_if_lt C dX5_count_19 (tgt := 30) (by decide) (fun hb => absurd hb (nI_pos (by omega))) (fun hb => ?_)
  refine g_iload_n C dX5_count_22 rfl ?_
  refine g_aload_n C dX5_count_23 rfl ?_
  refine g_callV (ci := 0) C dX5_count_24 cw_X5_83 rfl (c_size G _ _ M1 _ (P1.kset hl) (P1.kpl hl)) (P1.kset hl) rfl rfl (Nat.le_of_ble_eq_true rfl) (by decide) (by decide) (by decide) (by decide) (fun v M2 hq => ?_)
  obtain ⟨rfl, rfl⟩ := hq
  show GW G X 4 M2 0 0 27 _ (.int (nI (cntg (S1.1 (3 * n)))) :: .int (nI k) :: [])
  rw [e]
  refine g_icmp_ltN C dX5_count_27 (tgt := 40) (by decide) (by omega) (by omega) (fun hb => ?_) (fun hb => absurd hb (by omega))
  refine g_aload_n C dX5_count_40 rfl ?_
  refine g_iload_n C dX5_count_41 rfl ?_
  refine g_callV (ci := 0) C dX5_count_42 cw_X5_94 rfl (c_at G _ _ M2 _ (P1.kset hl) (P1.kpl hl) k (by rw [e]; exact hk)) (P1.kset hl) rfl rfl (Nat.le_of_ble_eq_true rfl) (by decide) (by decide) (by decide) (by decide) (fun v M3 hq => ?_)
  obtain ⟨rfl, c, c1, c2, c3, rfl⟩ := hq
  exact rt (some (.int _)) _ _ _ _ _ (fm_retI dX5_count_45) ⟨S1, c, c1, (wk_had w1 hn c1).mp c2, (wk_cnt w1 hn (by omega)).symm.trans c3, rfl, P1, F1, R1⟩ (Nat.le_refl _) (Nat.le_refl _)

set_option maxHeartbeats 4000000 in
set_option maxRecDepth 100000 in
theorem c_step (G : fm_G) (ad : Nat → Nat → Nat) (nr : Nat) (S : Cs) (M : fm_M) (Pi : Pic G ad nr S M) (a : Ab) (ha : AbOk a) (hnr : a.nR ≤ nr) (h : CR a S) (k : Nat) (hk : k < a.st) : fm_Ct G yX5_step cX5_step 2 (some .int) 0 0 0 0 [.ref (ad 7 0), .int (nI k)] M (fun v M1 => v = some (.int (nI (a.sp k))) ∧ M1 = M) := by
  have h5 := ha.2.2
  have l70 : liv nr 2 70 := Or.inr (Or.inr (Or.inr (by omega)))
  obtain ⟨h1, h2, h3, h4, -⟩ := h
  refine fm_head (by decide) (Nat.le_of_ble_eq_true rfl) rfl (fun X C N0 rt => ?_)
  refine g_iload_n C dX5_step_0 rfl ?_
  refine g_if_lt C dX5_step_1 (tgt := 12) (by decide) (fun hb => absurd hb (nI_pos (by omega))) (fun hb => ?_)
  refine g_iload_n C dX5_step_4 rfl ?_
  refine g_aload_n C dX5_step_5 rfl ?_
  refine g_getf C fl_X5_33 dX5_step_6 Pi.klc rfl ?_
  rw [h3]
  refine g_icmp_ltN C dX5_step_9 (tgt := 22) (by decide) (by omega) (by omega) (fun hb => ?_) (fun hb => absurd hb (by omega))
  refine g_aload_n C dX5_step_22 rfl ?_
  refine g_getf C fl_X5_29 dX5_step_23 Pi.klc rfl ?_
  refine g_iload_n C dX5_step_26 rfl ?_
  refine g_ialdN C dX5_step_27 (Pi.kar (n := 500) l70 rfl) (by omega) (by decide) ?_
  rw [h4 k hk]
  exact rt (some (.int _)) _ _ _ _ _ (fm_retI dX5_step_28) ⟨rfl, rfl⟩ (Nat.le_refl _) (Nat.le_refl _)

set_option maxHeartbeats 4000000 in
set_option maxRecDepth 100000 in
theorem c_use (G : fm_G) (ad : Nat → Nat → Nat) (nr : Nat) (S : Cs) (M : fm_M) (Pi : Pic G ad nr S M) (a : Ab) (ha : AbOk a) (hnr : a.nR ≤ nr) (h : CR a S) (r m : Nat) (hr : r < a.nR) (hm : m ≤ 50) : fm_Ct G yX5_use cX5_use 4 (some .int) 0 0 0 0 [.ref (ad 7 0), .int (nI r), .int (nI m)] M (fun v M1 => v = some (.int (nI (a.us r))) ∧ ∃ S', Pic G ad nr S' M1 ∧ Fr ad nr M M1 ∧ CR (a.nR, a.lf, a.sy, updN a.us r m, a.st, a.sp) S') := by
  have h10 := ha.1
  have hrr : r < nr := by omega
  obtain ⟨h1, h2, h3, h4, h5⟩ := h
  have e0 : S.2.2 0 = nI a.nR := h1.1
  refine fm_head (by decide) (Nat.le_of_ble_eq_true rfl) rfl (fun X C N0 rt => ?_)
  refine g_iload_n C dX5_use_0 rfl ?_
  refine g_if_lt C dX5_use_1 (tgt := 12) (by decide) (fun hb => absurd hb (nI_pos (by omega))) (fun hb => ?_)
  refine g_iload_n C dX5_use_4 rfl ?_
  refine g_aload_n C dX5_use_5 rfl ?_
  refine g_getf C fl_X5_21 dX5_use_6 Pi.klc rfl ?_
  rw [e0]
  refine g_icmp_ltN C dX5_use_9 (tgt := 22) (by decide) (by omega) (by omega) (fun hb => ?_) (fun hb => absurd hb (by omega))
  refine g_iload_n C dX5_use_22 rfl ?_
  refine g_if_lt C dX5_use_23 (tgt := 32) (by decide) (fun hb => absurd hb (nI_pos (by omega))) (fun hb => ?_)
  refine g_iload_n C dX5_use_26 rfl ?_
  refine g_bipush C dX5_use_27 (v := nI 50) rfl ?_
  refine g_icmp_leN C dX5_use_29 (tgt := 42) (by decide) (by omega) (by decide) (fun hb => ?_) (fun hb => absurd hb (by omega))
  refine g_aload_n C dX5_use_42 rfl ?_
  refine g_getf C fl_X5_17 dX5_use_43 Pi.klc rfl ?_
  refine g_iload_n C dX5_use_46 rfl ?_
  refine g_aaldN C dX5_use_47 Pi.krus rfl (by omega) (by decide) (krus_at hrr) ?_
  refine g_getf C fl_X5_128 dX5_use_48 (Pi.kru hrr) rfl ?_
  rw [h2 r hr]
  refine g_istore_n C dX5_use_51 (by decide) ?_
  refine g_aload_n C dX5_use_52 rfl ?_
  refine g_getf C fl_X5_17 dX5_use_53 Pi.klc rfl ?_
  refine g_iload_n C dX5_use_56 rfl ?_
  refine g_aaldN C dX5_use_57 Pi.krus rfl (by omega) (by decide) (krus_at hrr) ?_
  refine g_iload_n C dX5_use_58 rfl ?_
  refine g_putf C fl_X5_128 rfl dX5_use_59 (Pi.kru hrr) rfl rfl (Nat.le_of_ble_eq_true rfl) ?_
  refine g_abs (fun M' => ∃ S1, Pic G ad nr S1 M' ∧ Fr ad nr M M' ∧ scI S S1 (20 + r) (nI m)) ⟨_, Pi.uses hrr (nI m), Fr.rf.st (t := 4) (k := r) hrr, rfl, rfl, rfl⟩ (fun M1 ⟨S1, P1, F1, A1⟩ => ?_)
  refine g_iload_n C dX5_use_62 rfl ?_
  refine rt (some (.int _)) M1 _ _ _ _ (fm_retI dX5_use_63) ⟨rfl, S1, P1, F1, ⟨?_, fun r' hr' => ?_⟩, fun r' hr' => ?_, ?_, fun t ht => ?_, ?_⟩ (Nat.le_refl _) (Nat.le_refl _)
  · rw [A1.ne (by omega)]; exact e0
  · have hr2 : r' < a.nR := hr'
    obtain ⟨a1, a2, a3, a4, a5, a6, a7⟩ := h1.2 r' hr'
    exact ⟨by rw [A1.ne (by omega)]; exact a1, a2, by rw [A1.ne (by omega)]; exact a3, a4, by rw [A1.ne (by omega)]; exact a5, a6, fun i hi => ⟨(a7 i hi).1, by rw [A1.2.1]; exact (a7 i hi).2⟩⟩
  · have hr2 : r' < a.nR := hr'
    show S1.2.2 (20 + r') = nI (if r' = r then m else a.us r')
    by_cases he : r' = r
    · subst he; rw [if_pos rfl]; exact A1.at
    · rw [if_neg he, A1.ne (by omega)]; exact h2 r' hr2
  · rw [A1.ne (by omega)]; exact h3
  · rw [A1.2.1]; exact h4 t ht
  · rw [A1.ne (by omega)]
    rcases h5 with h5 | ⟨h5, h6⟩
    · exact Or.inl h5
    · exact Or.inr ⟨h5, (show wkI (gO a) S1 from wkI.of (gO_ok ha) A1.1 (fun j _ => by rw [A1.2.1]) h6)⟩

set_option maxHeartbeats 4000000 in
set_option maxRecDepth 100000 in
theorem lc_tm {a : Ab} (ha : AbOk a) {r l : Nat} (hr : r < a.nR) (hl : l < 3) : lcf (a.sy r) 4 / 8 ^ l % 8 = tm (a.sy r) (6 + l) 4 := by
  rw [lcf_tm _ 4 (ha.2.1 r hr).2.1]
  have := tm_le (a.sy r) 6 4
  have := tm_le (a.sy r) 7 4
  have := tm_le (a.sy r) 8 4
  rcases (show l = 0 ∨ l = 1 ∨ l = 2 by omega) with rfl | rfl | rfl
  · show _ / 1 % 8 = tm (a.sy r) 6 4; omega
  · show _ / 8 % 8 = tm (a.sy r) 7 4; omega
  · show _ / 64 % 8 = tm (a.sy r) 8 4; omega

set_option maxHeartbeats 4000000 in
set_option maxRecDepth 100000 in
theorem l_letters {G : fm_G} {ad : Nat → Nat → Nat} {nr : Nat} {S : Cs} {M : fm_M} {X : fm_X} {fr lo mc ms : Nat} {a : Ab} {l : Nat} (C : GC G X RX5 cX5_letters 4 (fr + 1) (lo + 21) mc ms) (Pi : Pic G ad nr S M) (ha : AbOk a) (hnr : a.nR ≤ nr) (h : CR a S) (hl : l < 3) (kk : ∀ ls, fm_lk ls 2 = some (.int (nI (stS a (6 + l)))) → GW G X 4 M 0 0 60 ls []) : ∀ d r, r + d = a.nR → GW G X 4 M 0 0 23 [(0, .ref (ad 7 0)), (1, .int (nI l)), (2, .int (nI (sm (fun r => a.us r * tm (a.sy r) (6 + l) 4) r))), (3, .int (nI r))] [] := by
  have h10 := ha.1
  obtain ⟨h1, h2, -⟩ := h
  have e0 : S.2.2 0 = nI a.nR := h1.1
  intro d
  induction d with
  | zero =>
    intro r hr
    have e : r = a.nR := by omega
    subst e
    refine g_iload_n C dX5_letters_23 rfl ?_
    refine g_aload_n C dX5_letters_24 rfl ?_
    refine g_getf C fl_X5_21 dX5_letters_25 Pi.klc rfl ?_
    rw [e0]
    refine g_icmp_geN C dX5_letters_28 (tgt := 60) (by decide) (by omega) (by omega) (fun hb => kk _ rfl) (fun hb => absurd hb (by omega))
  | succ d ih =>
    intro r hr
    have hrn : r < a.nR := by omega
    have hrr : r < nr := by omega
    obtain ⟨i1, i2, i3, i4, i5, i6, i7⟩ := h1.2 r hrn
    refine g_iload_n C dX5_letters_23 rfl ?_
    refine g_aload_n C dX5_letters_24 rfl ?_
    refine g_getf C fl_X5_21 dX5_letters_25 Pi.klc rfl ?_
    rw [e0]
    refine g_icmp_geN C dX5_letters_28 (tgt := 60) (by decide) (by omega) (by omega) (fun hb => absurd hb (by omega)) (fun hb => ?_)
    refine g_iload_n C dX5_letters_31 rfl ?_
    refine g_aload_n C dX5_letters_32 rfl ?_
    refine g_getf C fl_X5_17 dX5_letters_33 Pi.klc rfl ?_
    refine g_iload_n C dX5_letters_36 rfl ?_
    refine g_aaldN C dX5_letters_37 Pi.krus rfl (by omega) (by decide) (krus_at hrr) ?_
    refine g_getf C fl_X5_128 dX5_letters_38 (Pi.kru hrr) rfl ?_
    rw [h2 r hrn]
    refine g_aload_n C dX5_letters_41 rfl ?_
    refine g_getf C fl_X5_17 dX5_letters_42 Pi.klc rfl ?_
    refine g_iload_n C dX5_letters_45 rfl ?_
    refine g_aaldN C dX5_letters_46 Pi.krus rfl (by omega) (by decide) (krus_at hrr) ?_
    refine g_iload_n C dX5_letters_47 rfl ?_
    refine g_callV (ci := 3) C dX5_letters_48 cw_X5_150 rfl (c_lettersOf G ad nr S M Pi r l _ hrr hl i3 i4) (Pi.kru hrr) rfl rfl (Nat.le_of_ble_eq_true rfl) (by omega) (by omega) (by omega) (by omega) (fun v M2 hq => ?_)
    obtain ⟨rfl, rfl⟩ := hq
    have e2 : lcf (a.sy r) 4 / 8 ^ l % 8 = tm (a.sy r) (6 + l) 4 := lc_tm ha hrn hl
    show GW G X 4 M2 0 0 51 _ (.int (nI (lcf (a.sy r) 4 / 8 ^ l % 8)) :: .int (nI (a.us r)) :: .int _ :: [])
    rw [e2]
    refine g_imul C dX5_letters_51 ?_
    refine g_topI (pk_mul _ _) ?_
    refine g_iadd C dX5_letters_52 ?_
    refine g_topI (nI_add _ _) ?_
    refine g_istore_n C dX5_letters_53 (by decide) ?_
    refine g_inc1 C dX5_letters_54 rfl (by decide) ?_
    refine g_goto C dX5_letters_57 (tgt := 23) (by decide) ?_
    exact ih (r + 1) (by omega)

set_option maxHeartbeats 4000000 in
set_option maxRecDepth 100000 in
theorem c_letters (G : fm_G) (ad : Nat → Nat → Nat) (nr : Nat) (S : Cs) (M : fm_M) (Pi : Pic G ad nr S M) (a : Ab) (ha : AbOk a) (hnr : a.nR ≤ nr) (h : CR a S) (l : Nat) (hl : l < 3) : fm_Ct G yX5_letters cX5_letters 4 (some .int) 1 21 0 0 [.ref (ad 7 0), .int (nI l)] M (fun v M1 => v = some (.int (nI (stS a (6 + l)))) ∧ M1 = M) := by
  refine fm_head (by decide) (Nat.le_of_ble_eq_true rfl) rfl (fun X C N0 rt => ?_)
  refine g_iload_n C dX5_letters_0 rfl ?_
  refine g_if_lt C dX5_letters_1 (tgt := 9) (by decide) (fun hb => absurd hb (nI_pos (by omega))) (fun hb => ?_)
  refine g_iload_n C dX5_letters_4 rfl ?_
  refine g_iconst C dX5_letters_5 (v := nI 3) rfl ?_
  refine g_icmp_ltN C dX5_letters_6 (tgt := 19) (by decide) (by omega) (by decide) (fun hb => ?_) (fun hb => absurd hb (by omega))
  refine g_iconst C dX5_letters_19 (v := nI 0) rfl ?_
  refine g_istore_n C dX5_letters_20 (by decide) ?_
  refine g_iconst C dX5_letters_21 (v := nI 0) rfl ?_
  refine g_istore_n C dX5_letters_22 (by decide) ?_
  refine l_letters (fr := 0) (lo := 0) C Pi ha hnr h hl (fun ls hls => ?_) a.nR 0 (by omega)
  refine g_iload_n C dX5_letters_60 hls ?_
  exact rt (some (.int _)) _ _ _ _ _ (fm_retI dX5_letters_61) ⟨rfl, rfl⟩ (Nat.le_refl _) (Nat.le_refl _)

set_option maxHeartbeats 4000000 in
set_option maxRecDepth 100000 in
theorem l_tl {G : fm_G} {ad : Nat → Nat → Nat} {nr : Nat} {S : Cs} {M : fm_M} {X : fm_X} {fr lo mc ms : Nat} {a : Ab} {n : Nat} (C : GC G X RX5 cX5_timesOnTheLeft 4 fr lo mc ms) (Pi : Pic G ad nr S M) (ha : AbOk a) (hnr : a.nR ≤ nr) (h : CR a S) (hn : n < 5) (kk : ∀ ls, fm_lk ls 2 = some (.int (nI (lfS a n))) → GW G X 4 M 0 0 43 ls []) : ∀ d r, r + d = a.nR → GW G X 4 M 0 0 4 [(0, .ref (ad 7 0)), (1, .int (nI n)), (2, .int (nI (sm (fun r => if a.lf r = n then a.us r else 0) r))), (3, .int (nI r))] [] := by
  have h10 := ha.1
  obtain ⟨h1, h2, -⟩ := h
  have e0 : S.2.2 0 = nI a.nR := h1.1
  intro d
  induction d with
  | zero =>
    intro r hr
    have e : r = a.nR := by omega
    subst e
    refine g_iload_n C dX5_timesOnTheLeft_4 rfl ?_
    refine g_aload_n C dX5_timesOnTheLeft_5 rfl ?_
    refine g_getf C fl_X5_21 dX5_timesOnTheLeft_6 Pi.klc rfl ?_
    rw [e0]
    refine g_icmp_geN C dX5_timesOnTheLeft_9 (tgt := 43) (by decide) (by omega) (by omega) (fun hb => kk _ rfl) (fun hb => absurd hb (by omega))
  | succ d ih =>
    intro r hr
    have hrn : r < a.nR := by omega
    have hrr : r < nr := by omega
    obtain ⟨i1, i2, -⟩ := h1.2 r hrn
    have i1' : S.2.2 (10 + r) = nI (a.lf r) := i1
    have i2' : a.lf r < 5 := i2
    refine g_iload_n C dX5_timesOnTheLeft_4 rfl ?_
    refine g_aload_n C dX5_timesOnTheLeft_5 rfl ?_
    refine g_getf C fl_X5_21 dX5_timesOnTheLeft_6 Pi.klc rfl ?_
    rw [e0]
    refine g_icmp_geN C dX5_timesOnTheLeft_9 (tgt := 43) (by decide) (by omega) (by omega) (fun hb => absurd hb (by omega)) (fun hb => ?_)
    have hs : sm (fun r => if a.lf r = n then a.us r else 0) (r + 1) = sm (fun r => if a.lf r = n then a.us r else 0) r + (if a.lf r = n then a.us r else 0) := rfl
    have ih1 := ih (r + 1) (by omega)
    rw [hs] at ih1
    refine g_aload_n C dX5_timesOnTheLeft_12 rfl ?_
    refine g_getf C fl_X5_17 dX5_timesOnTheLeft_13 Pi.klc rfl ?_
    refine g_iload_n C dX5_timesOnTheLeft_16 rfl ?_
    refine g_aaldN C dX5_timesOnTheLeft_17 Pi.krus rfl (by omega) (by decide) (krus_at hrr) ?_
    refine g_getf C fl_X5_173 dX5_timesOnTheLeft_18 (Pi.kru hrr) rfl ?_
    rw [i1']
    refine g_iload_n C dX5_timesOnTheLeft_21 rfl ?_
    refine g_icmp_neN C dX5_timesOnTheLeft_22 (tgt := 37) (by decide) (by omega) (by omega) (fun hb => ?_) (fun hb => ?_)
    · rw [if_neg hb] at ih1
      refine g_inc1 C dX5_timesOnTheLeft_37 rfl (by decide) ?_
      refine g_goto C dX5_timesOnTheLeft_40 (tgt := 4) (by decide) ?_
      exact ih1
    · rw [if_pos hb] at ih1
      refine g_iload_n C dX5_timesOnTheLeft_25 rfl ?_
      refine g_aload_n C dX5_timesOnTheLeft_26 rfl ?_
      refine g_getf C fl_X5_17 dX5_timesOnTheLeft_27 Pi.klc rfl ?_
      refine g_iload_n C dX5_timesOnTheLeft_30 rfl ?_
      refine g_aaldN C dX5_timesOnTheLeft_31 Pi.krus rfl (by omega) (by decide) (krus_at hrr) ?_
      refine g_getf C fl_X5_128 dX5_timesOnTheLeft_32 (Pi.kru hrr) rfl ?_
      rw [h2 r hrn]
      refine g_iadd C dX5_timesOnTheLeft_35 ?_
      refine g_topI (nI_add _ _) ?_
      refine g_istore_n C dX5_timesOnTheLeft_36 (by decide) ?_
      refine g_inc1 C dX5_timesOnTheLeft_37 rfl (by decide) ?_
      refine g_goto C dX5_timesOnTheLeft_40 (tgt := 4) (by decide) ?_
      exact ih1

set_option maxHeartbeats 4000000 in
set_option maxRecDepth 100000 in
theorem c_tl (G : fm_G) (ad : Nat → Nat → Nat) (nr : Nat) (S : Cs) (M : fm_M) (Pi : Pic G ad nr S M) (a : Ab) (ha : AbOk a) (hnr : a.nR ≤ nr) (h : CR a S) (n : Nat) (hn : n < 5) : fm_Ct G yX5_timesOnTheLeft cX5_timesOnTheLeft 4 (some .int) 0 0 0 0 [.ref (ad 7 0), .int (nI n)] M (fun v M1 => v = some (.int (nI (lfS a n))) ∧ M1 = M) := by
  refine fm_head (by decide) (Nat.le_of_ble_eq_true rfl) rfl (fun X C N0 rt => ?_)
  refine g_iconst C dX5_timesOnTheLeft_0 (v := nI 0) rfl ?_
  refine g_istore_n C dX5_timesOnTheLeft_1 (by decide) ?_
  refine g_iconst C dX5_timesOnTheLeft_2 (v := nI 0) rfl ?_
  refine g_istore_n C dX5_timesOnTheLeft_3 (by decide) ?_
  refine l_tl C Pi ha hnr h hn (fun ls hls => ?_) a.nR 0 (by omega)
  refine g_iload_n C dX5_timesOnTheLeft_43 hls ?_
  exact rt (some (.int _)) _ _ _ _ _ (fm_retI dX5_timesOnTheLeft_44) ⟨rfl, rfl⟩ (Nat.le_refl _) (Nat.le_refl _)

set_option maxHeartbeats 4000000 in
set_option maxRecDepth 100000 in
theorem l_tr {G : fm_G} {ad : Nat → Nat → Nat} {nr : Nat} {S : Cs} {M : fm_M} {X : fm_X} {fr lo mc ms : Nat} {a : Ab} {n : Nat} (C : GC G X RX5 cX5_timesOnTheRight 4 (fr + 1) (lo + 23) mc ms) (Pi : Pic G ad nr S M) (ha : AbOk a) (hnr : a.nR ≤ nr) (h : CR a S) (hn : n < 5) (kk : ∀ ls, fm_lk ls 2 = some (.int (nI (stS a (n + 1)))) → GW G X 4 M 0 0 41 ls []) : ∀ d r, r + d = a.nR → GW G X 4 M 0 0 4 [(0, .ref (ad 7 0)), (1, .int (nI n)), (2, .int (nI (sm (fun r => a.us r * tm (a.sy r) (n + 1) 4) r))), (3, .int (nI r))] [] := by
  have h10 := ha.1
  obtain ⟨h1, h2, -⟩ := h
  have e0 : S.2.2 0 = nI a.nR := h1.1
  intro d
  induction d with
  | zero =>
    intro r hr
    have e : r = a.nR := by omega
    subst e
    refine g_iload_n C dX5_timesOnTheRight_4 rfl ?_
    refine g_aload_n C dX5_timesOnTheRight_5 rfl ?_
    refine g_getf C fl_X5_21 dX5_timesOnTheRight_6 Pi.klc rfl ?_
    rw [e0]
    refine g_icmp_geN C dX5_timesOnTheRight_9 (tgt := 41) (by decide) (by omega) (by omega) (fun hb => kk _ rfl) (fun hb => absurd hb (by omega))
  | succ d ih =>
    intro r hr
    have hrn : r < a.nR := by omega
    have hrr : r < nr := by omega
    have iR := h1.2 r hrn
    refine g_iload_n C dX5_timesOnTheRight_4 rfl ?_
    refine g_aload_n C dX5_timesOnTheRight_5 rfl ?_
    refine g_getf C fl_X5_21 dX5_timesOnTheRight_6 Pi.klc rfl ?_
    rw [e0]
    refine g_icmp_geN C dX5_timesOnTheRight_9 (tgt := 41) (by decide) (by omega) (by omega) (fun hb => absurd hb (by omega)) (fun hb => ?_)
    refine g_iload_n C dX5_timesOnTheRight_12 rfl ?_
    refine g_aload_n C dX5_timesOnTheRight_13 rfl ?_
    refine g_getf C fl_X5_17 dX5_timesOnTheRight_14 Pi.klc rfl ?_
    refine g_iload_n C dX5_timesOnTheRight_17 rfl ?_
    refine g_aaldN C dX5_timesOnTheRight_18 Pi.krus rfl (by omega) (by decide) (krus_at hrr) ?_
    refine g_getf C fl_X5_128 dX5_timesOnTheRight_19 (Pi.kru hrr) rfl ?_
    rw [h2 r hrn]
    refine g_aload_n C dX5_timesOnTheRight_22 rfl ?_
    refine g_getf C fl_X5_17 dX5_timesOnTheRight_23 Pi.klc rfl ?_
    refine g_iload_n C dX5_timesOnTheRight_26 rfl ?_
    refine g_aaldN C dX5_timesOnTheRight_27 Pi.krus rfl (by omega) (by decide) (krus_at hrr) ?_
    refine g_iload_n C dX5_timesOnTheRight_28 rfl ?_
    refine g_callV (ci := 3) C dX5_timesOnTheRight_29 cw_X5_194 rfl (c_timesOf G ad nr S M Pi r n _ _ _ _ hrr hn iR) (Pi.kru hrr) rfl rfl (Nat.le_of_ble_eq_true rfl) (by omega) (by omega) (by omega) (by omega) (fun v M2 hq => ?_)
    obtain ⟨rfl, rfl⟩ := hq
    have e2 : cntq (fun i => decide (ptf (a.sy r) 4 i = n)) (nz (a.sy r) 4) = tm (a.sy r) (n + 1) 4 := tm_pt (a.sy r) hn 4
    show GW G X 4 M2 0 0 32 _ (.int (nI (cntq (fun i => decide (ptf (a.sy r) 4 i = n)) (nz (a.sy r) 4))) :: .int (nI (a.us r)) :: .int _ :: [])
    rw [e2]
    refine g_imul C dX5_timesOnTheRight_32 ?_
    refine g_topI (pk_mul _ _) ?_
    refine g_iadd C dX5_timesOnTheRight_33 ?_
    refine g_topI (nI_add _ _) ?_
    refine g_istore_n C dX5_timesOnTheRight_34 (by decide) ?_
    refine g_inc1 C dX5_timesOnTheRight_35 rfl (by decide) ?_
    refine g_goto C dX5_timesOnTheRight_38 (tgt := 4) (by decide) ?_
    exact ih (r + 1) (by omega)

set_option maxHeartbeats 4000000 in
set_option maxRecDepth 100000 in
theorem c_tr (G : fm_G) (ad : Nat → Nat → Nat) (nr : Nat) (S : Cs) (M : fm_M) (Pi : Pic G ad nr S M) (a : Ab) (ha : AbOk a) (hnr : a.nR ≤ nr) (h : CR a S) (n : Nat) (hn : n < 5) : fm_Ct G yX5_timesOnTheRight cX5_timesOnTheRight 4 (some .int) 1 23 0 0 [.ref (ad 7 0), .int (nI n)] M (fun v M1 => v = some (.int (nI (stS a (n + 1)))) ∧ M1 = M) := by
  refine fm_head (by decide) (Nat.le_of_ble_eq_true rfl) rfl (fun X C N0 rt => ?_)
  refine g_iconst C dX5_timesOnTheRight_0 (v := nI 0) rfl ?_
  refine g_istore_n C dX5_timesOnTheRight_1 (by decide) ?_
  refine g_iconst C dX5_timesOnTheRight_2 (v := nI 0) rfl ?_
  refine g_istore_n C dX5_timesOnTheRight_3 (by decide) ?_
  refine l_tr (fr := 0) (lo := 0) C Pi ha hnr h hn (fun ls hls => ?_) a.nR 0 (by omega)
  refine g_iload_n C dX5_timesOnTheRight_41 hls ?_
  exact rt (some (.int _)) _ _ _ _ _ (fm_retI dX5_timesOnTheRight_42) ⟨rfl, rfl⟩ (Nat.le_refl _) (Nat.le_refl _)
