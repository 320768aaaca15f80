/-! THE REFERENCE: its constructor, rule, clear, height, many, count -/
theorem rsI.RR0 {a : Ab} {S S' : Rs} {x : Int32} (h : rsI S S' 0 x) (hR : RR a S) : RR a S' := hR.of (fun i hi => h.ne (by omega)) (fun k _ => by rw [h.1])

def ctX (G : fm_G) : Nat → va_E
  | 0 => fm_I G 10 (fun _ => 0)
  | 1 => fm_I G 40 (fun _ => 0)
  | 2 => fm_I G 10 (fun _ => 0)
  | 3 => fm_I G 2560 (fun _ => 0)
  | 4 => fm_B G 2560 (fun _ => 0)
  | 5 => fm_I G 501 (fun _ => 0)
  | 6 => fm_I G 501 (fun _ => 0)
  | 7 => fm_I G 10 (fun _ => 0)
  | _ => fm_I G 2600 (fun _ => 0)
def rdX (q : Nat) (b : Nat → Nat) (k : Nat) : Nat := if k = 0 then q else b (k - 1)
def S0r : Rs := (fun _ _ => 0, fun i => if i = 3 then -1 else nI 0)
theorem RPic_new {G : fm_G} {M M1 : fm_M} {q : Nat} {b : Nat → Nat} (h : Nw M M1 q (fm_O 6 [.int 0, .int 0, .ref (b 0), .ref (b 1), .ref (b 2), .ref (b 3), .int 0, .ref (b 4), .int (-1), .ref (b 5), .int 0, .ref (b 6), .ref (b 7), .int 0, .ref (b 8)]) 9 b (ctX G)) : RPic G (rdX q b) S0r M1 := by
  obtain ⟨h1, h2, h3, h4⟩ := h
  refine ⟨fun k hk => ?_, fun k k' hk hk' e => ?_⟩
  · match k, hk with
    | 0, _ => exact h1
    | 1, _ => exact (h2 0 (by decide)).2.2
    | 2, _ => exact (h2 1 (by decide)).2.2
    | 3, _ => exact (h2 2 (by decide)).2.2
    | 4, _ => exact (h2 3 (by decide)).2.2
    | 5, _ => exact (h2 4 (by decide)).2.2
    | 6, _ => exact (h2 5 (by decide)).2.2
    | 7, _ => exact (h2 6 (by decide)).2.2
    | 8, _ => exact (h2 7 (by decide)).2.2
    | 9, _ => exact (h2 8 (by decide)).2.2
    | n + 10, h => omega
  · unfold rdX at e
    by_cases c : k = 0 <;> by_cases c' : k' = 0
    · omega
    · rw [if_pos c, if_neg c'] at e
      exact absurd e.symm (h2 _ (by omega)).1
    · rw [if_neg c, if_pos c'] at e
      exact absurd e (h2 _ (by omega)).1
    · rw [if_neg c, if_neg c'] at e
      have := h3 _ _ (by omega) (by omega) e
      omega

set_option maxHeartbeats 4000000 in
set_option maxRecDepth 100000 in
theorem r_init (G : fm_G) (a : Nat) (M : fm_M) (hc : M a = some (fm_O 6 [.int 0, .int 0, .null, .null, .null, .null, .int 0, .null, .int 0, .null, .int 0, .null, .null, .int 0, .null])) : fm_Ct G yX6_init cX6_init 1 none 1 12 9 8792 [.ref a] M (fun v M1 => v = none ∧ ∃ b, Nw M M1 a (fm_O 6 [.int 0, .int 0, .ref (b 0), .ref (b 1), .ref (b 2), .ref (b 3), .int 0, .ref (b 4), .int (-1), .ref (b 5), .int 0, .ref (b 6), .ref (b 7), .int 0, .ref (b 8)]) 9 b (ctX G)) := by
  refine fm_head (by decide) (Nat.le_of_ble_eq_true rfl) rfl (fun X C N0 rt => ?_)
  have Z0 := Nw.start hc (fun _ => 0) (fun _ => fm_O 0 [])
  refine g_aload_n C dX6_init_0 rfl ?_
  refine g_objI C dX6_init_1 cw_X6_1 (by decide) (by decide) ?_
  refine g_aload_n C dX6_init_4 rfl ?_
  refine g_bipush C dX6_init_5 (v := nI 10) rfl ?_
  refine g_newI C rfl ka_int dX6_init_7 (by decide) (by decide) (by decide) (fun q1 hq1 => ?_)
  have A1 := Z0.new hq1 (fm_I G 10 (fun _ => 0))
  refine g_putF C N0 fl_X6_7 rfl rfl dX6_init_9 A1.1 rfl rfl (Nat.le_of_ble_eq_true rfl) ?_
  have N1 := A1.put (fm_O 6 [.int 0, .int 0, .ref q1, .null, .null, .null, .int 0, .null, .int 0, .null, .int 0, .null, .null, .int 0, .null])
  refine g_aload_n C dX6_init_12 rfl ?_
  refine g_bipush C dX6_init_13 (v := nI 40) rfl ?_
  refine g_newI C rfl ka_int dX6_init_15 (by decide) (by decide) (by decide) (fun q2 hq2 => ?_)
  have A2 := N1.new hq2 (fm_I G 40 (fun _ => 0))
  refine g_putF C N0 fl_X6_13 rfl rfl dX6_init_17 A2.1 rfl rfl (Nat.le_of_ble_eq_true rfl) ?_
  have N2 := A2.put (fm_O 6 [.int 0, .int 0, .ref q1, .ref q2, .null, .null, .int 0, .null, .int 0, .null, .int 0, .null, .null, .int 0, .null])
  refine g_aload_n C dX6_init_20 rfl ?_
  refine g_bipush C dX6_init_21 (v := nI 10) rfl ?_
  refine g_newI C rfl ka_int dX6_init_23 (by decide) (by decide) (by decide) (fun q3 hq3 => ?_)
  have A3 := N2.new hq3 (fm_I G 10 (fun _ => 0))
  refine g_putF C N0 fl_X6_16 rfl rfl dX6_init_25 A3.1 rfl rfl (Nat.le_of_ble_eq_true rfl) ?_
  have N3 := A3.put (fm_O 6 [.int 0, .int 0, .ref q1, .ref q2, .ref q3, .null, .int 0, .null, .int 0, .null, .int 0, .null, .null, .int 0, .null])
  refine g_aload_n C dX6_init_28 rfl ?_
  refine g_sipush C dX6_init_29 (v := nI 2560) rfl ?_
  refine g_newI C rfl ka_int dX6_init_32 (by decide) (by decide) (by decide) (fun q4 hq4 => ?_)
  have A4 := N3.new hq4 (fm_I G 2560 (fun _ => 0))
  refine g_putF C N0 fl_X6_19 rfl rfl dX6_init_34 A4.1 rfl rfl (Nat.le_of_ble_eq_true rfl) ?_
  have N4 := A4.put (fm_O 6 [.int 0, .int 0, .ref q1, .ref q2, .ref q3, .ref q4, .int 0, .null, .int 0, .null, .int 0, .null, .null, .int 0, .null])
  refine g_aload_n C dX6_init_37 rfl ?_
  refine g_sipush C dX6_init_38 (v := nI 2560) rfl ?_
  refine g_newZ C rfl ka_boolean dX6_init_41 (by decide) (by decide) (by decide) (fun q5 hq5 => ?_)
  have A5 := N4.new hq5 (fm_B G 2560 (fun _ => 0))
  refine g_putF C N0 fl_X6_22 rfl rfl dX6_init_43 A5.1 rfl rfl (Nat.le_of_ble_eq_true rfl) ?_
  have N5 := A5.put (fm_O 6 [.int 0, .int 0, .ref q1, .ref q2, .ref q3, .ref q4, .int 0, .ref q5, .int 0, .null, .int 0, .null, .null, .int 0, .null])
  refine g_aload_n C dX6_init_46 rfl ?_
  refine g_iconst C dX6_init_47 (v := -1) rfl ?_
  refine g_putf C fl_X6_26 rfl dX6_init_48 N5.1 rfl rfl (Nat.le_of_ble_eq_true rfl) ?_
  have N6 := N5.put (fm_O 6 [.int 0, .int 0, .ref q1, .ref q2, .ref q3, .ref q4, .int 0, .ref q5, .int (-1), .null, .int 0, .null, .null, .int 0, .null])
  refine g_aload_n C dX6_init_51 rfl ?_
  refine g_sipush C dX6_init_52 (v := nI 501) rfl ?_
  refine g_newI C rfl ka_int dX6_init_55 (by decide) (by decide) (by decide) (fun q7 hq7 => ?_)
  have A7 := N6.new hq7 (fm_I G 501 (fun _ => 0))
  refine g_putF C N0 fl_X6_30 rfl rfl dX6_init_57 A7.1 rfl rfl (Nat.le_of_ble_eq_true rfl) ?_
  have N7 := A7.put (fm_O 6 [.int 0, .int 0, .ref q1, .ref q2, .ref q3, .ref q4, .int 0, .ref q5, .int (-1), .ref q7, .int 0, .null, .null, .int 0, .null])
  refine g_aload_n C dX6_init_60 rfl ?_
  refine g_sipush C dX6_init_61 (v := nI 501) rfl ?_
  refine g_newI C rfl ka_int dX6_init_64 (by decide) (by decide) (by decide) (fun q8 hq8 => ?_)
  have A8 := N7.new hq8 (fm_I G 501 (fun _ => 0))
  refine g_putF C N0 fl_X6_33 rfl rfl dX6_init_66 A8.1 rfl rfl (Nat.le_of_ble_eq_true rfl) ?_
  have N8 := A8.put (fm_O 6 [.int 0, .int 0, .ref q1, .ref q2, .ref q3, .ref q4, .int 0, .ref q5, .int (-1), .ref q7, .int 0, .ref q8, .null, .int 0, .null])
  refine g_aload_n C dX6_init_69 rfl ?_
  refine g_bipush C dX6_init_70 (v := nI 10) rfl ?_
  refine g_newI C rfl ka_int dX6_init_72 (by decide) (by decide) (by decide) (fun q9 hq9 => ?_)
  have A9 := N8.new hq9 (fm_I G 10 (fun _ => 0))
  refine g_putF C N0 fl_X6_36 rfl rfl dX6_init_74 A9.1 rfl rfl (Nat.le_of_ble_eq_true rfl) ?_
  have N9 := A9.put (fm_O 6 [.int 0, .int 0, .ref q1, .ref q2, .ref q3, .ref q4, .int 0, .ref q5, .int (-1), .ref q7, .int 0, .ref q8, .ref q9, .int 0, .null])
  refine g_aload_n C dX6_init_77 rfl ?_
  refine g_sipush C dX6_init_78 (v := nI 2600) rfl ?_
  refine g_newI C rfl ka_int dX6_init_81 (by decide) (by decide) (by decide) (fun q10 hq10 => ?_)
  have A10 := N9.new hq10 (fm_I G 2600 (fun _ => 0))
  refine g_putF C N0 fl_X6_39 rfl rfl dX6_init_83 A10.1 rfl rfl (Nat.le_of_ble_eq_true rfl) ?_
  have N10 := A10.put (fm_O 6 [.int 0, .int 0, .ref q1, .ref q2, .ref q3, .ref q4, .int 0, .ref q5, .int (-1), .ref q7, .int 0, .ref q8, .ref q9, .int 0, .ref q10])
  exact rt none _ _ _ _ _ (fm_retV dX6_init_86) ⟨rfl, _, Nw.congr N10 rfl (fun i hi => match i, hi with | 0, _ => rfl | 1, _ => rfl | 2, _ => rfl | 3, _ => rfl | 4, _ => rfl | 5, _ => rfl | 6, _ => rfl | 7, _ => rfl | 8, _ => rfl | n + 9, h => absurd h (by omega))⟩ (by decide) (by decide)

set_option maxHeartbeats 4000000 in
set_option maxRecDepth 100000 in
theorem r_clear (G : fm_G) (rd : Nat → Nat) (S : Rs) (M : fm_M) (Pi : RPic G rd S M) (a : Ab) (ha : AbOk a) (h : RR a S) : fm_Ct G yX6_clear cX6_clear 1 none 0 0 0 0 [.ref (rd 0)] M (fun v M1 => v = none ∧ ∃ S', RPic G rd S' M1 ∧ RFr rd M M1 ∧ RR (0, a.lf, a.sy, a.us, 0, a.sp) S') := by
  refine fm_head (by decide) (Nat.le_of_ble_eq_true rfl) rfl (fun X C N0 rt => ?_)
  refine g_aload_n C dX6_clear_0 rfl ?_
  refine g_iconst C dX6_clear_1 (v := nI 0) rfl ?_
  refine g_putf C fl_X6_42 rfl dX6_clear_2 Pi.ob rfl rfl (Nat.le_of_ble_eq_true rfl) ?_
  refine g_abs (fun M' => ∃ S1, RPic G rd S1 M' ∧ RFr rd M M' ∧ rsI S S1 0 (nI 0)) ⟨_, Pi.sc 0 _ rfl, RFr.rf.st (k := 0) (by decide), rfl, rfl⟩ (fun M1 ⟨S1, P1, F1, A1⟩ => ?_)
  refine g_aload_n C dX6_clear_5 rfl ?_
  refine g_iconst C dX6_clear_6 (v := nI 0) rfl ?_
  refine g_putf C fl_X6_53 rfl dX6_clear_7 P1.ob rfl rfl (Nat.le_of_ble_eq_true rfl) ?_
  refine g_abs (fun M' => ∃ S2, RPic G rd S2 M' ∧ RFr rd M M' ∧ rsI S1 S2 1 (nI 0)) ⟨_, P1.sc 1 _ rfl, F1.st (k := 0) (by decide), rfl, rfl⟩ (fun M2 ⟨S2, P2, F2, A2⟩ => ?_)
  refine g_aload_n C dX6_clear_10 rfl ?_
  refine g_iconst C dX6_clear_11 (v := nI 0) rfl ?_
  refine g_putf C fl_X6_60 rfl dX6_clear_12 P2.ob rfl rfl (Nat.le_of_ble_eq_true rfl) ?_
  refine g_abs (fun M' => ∃ S3, RPic G rd S3 M' ∧ RFr rd M M' ∧ rsI S2 S3 2 (nI 0)) ⟨_, P2.sc 2 _ rfl, F2.st (k := 0) (by decide), rfl, rfl⟩ (fun M3 ⟨S3, P3, F3, A3⟩ => ?_)
  refine g_aload_n C dX6_clear_15 rfl ?_
  refine g_iconst C dX6_clear_16 (v := -1) rfl ?_
  refine g_putf C fl_X6_26 rfl dX6_clear_17 P3.ob rfl rfl (Nat.le_of_ble_eq_true rfl) ?_
  refine g_abs (fun M' => ∃ S4, RPic G rd S4 M' ∧ RFr rd M M' ∧ rsI S3 S4 3 (-1)) ⟨_, P3.sc 3 _ rfl, F3.st (k := 0) (by decide), rfl, rfl⟩ (fun M4 ⟨S4, P4, F4, A4⟩ => ?_)
  refine rt none M4 _ _ _ _ (fm_retV dX6_clear_20) ⟨rfl, S4, P4, F4, ⟨?_, fun r hr => absurd hr (Nat.not_lt_zero r)⟩, fun r hr => absurd hr (Nat.not_lt_zero r), Or.inl ⟨rfl, A4.at⟩, fun r hr => absurd hr (Nat.not_lt_zero r), Or.inl ?_⟩ (Nat.le_refl _) (Nat.le_refl _)
  · rw [A4.ne (by decide), A3.ne (by decide), A2.at]
  · rw [A4.ne (by decide), A3.at]

set_option maxHeartbeats 4000000 in
set_option maxRecDepth 100000 in
theorem l_qa {G : fm_G} {rd : Nat → Nat} {S : Rs} {M : fm_M} {X : fm_X} {fr lo mc ms : Nat} {x b c d e : Int32} (C : GC G X RX6 cX6_rule 7 (fr + 2) (lo + 42) mc ms) (kk : GW G X 7 M 0 0 56 ([(0, .ref (rd 0)), (1, .int x), (2, .int b), (3, .int c), (4, .int d), (5, .int e), (6, .int (bI (pB (okN x ∧ okS b ∧ okS c ∧ okS d ∧ okS e))))]) []) : GW G X 7 M 0 0 0 ([(0, .ref (rd 0)), (1, .int x), (2, .int b), (3, .int c), (4, .int d), (5, .int e)]) [] := by
  have no : ¬ (okN x ∧ okS b ∧ okS c ∧ okS d ∧ okS e) → GW G X 7 M 0 0 53 ([(0, .ref (rd 0)), (1, .int x), (2, .int b), (3, .int c), (4, .int d), (5, .int e)]) [] := by
    intro hn
    rw [pB_f hn] at kk
    refine g_iconst C dX6_rule_53 (v := nI 0) rfl ?_
    refine g_istore C dX6_rule_54 (by decide) ?_
    exact kk
  refine g_iload_n C dX6_rule_0 rfl ?_
  refine g_callS C dX6_rule_1 cw_X6_49 (r_isN G M x) rfl rfl (Nat.le_of_ble_eq_true rfl) (by omega) (by omega) (by omega) (by omega) (fun u M1 hq => ?_)
  obtain ⟨hM, rfl⟩ := hq
  rw [hM]
  clear hM
  show GW G X 7 M 0 0 4 _ [.int (bI (pB (okN x)))]
  by_cases h1 : okN x
  rotate_left
  · rw [pB_f h1]
    exact g_if_eq C dX6_rule_4 (tgt := 53) (by decide) (fun _ => no (fun z => h1 z.1)) (fun z => absurd (by decide) z)
  rw [pB_t h1]
  refine g_if_eq C dX6_rule_4 (tgt := 53) (by decide) (fun z => absurd z (by decide)) (fun _ => ?_)
  refine g_iload_n C dX6_rule_7 rfl ?_
  refine g_iconst C dX6_rule_8 (v := -1) rfl ?_
  refine g_bipush C dX6_rule_9 (v := nI 7) rfl ?_
  refine g_callS C dX6_rule_11 cw_X6_45 (r_in G M b (-1) (nI 7)) rfl rfl (Nat.le_of_ble_eq_true rfl) (by omega) (by omega) (by omega) (by omega) (fun u M2 hq => ?_)
  obtain ⟨hM, rfl⟩ := hq
  rw [hM, pB_of okS_b]
  clear hM
  show GW G X 7 M 0 0 14 _ [.int (bI (pB (okS b)))]
  by_cases hb : okS b
  rotate_left
  · rw [pB_f hb]
    exact g_if_eq C dX6_rule_14 (tgt := 53) (by decide) (fun _ => no (fun z => hb z.2.1)) (fun z => absurd (by decide) z)
  rw [pB_t hb]
  refine g_if_eq C dX6_rule_14 (tgt := 53) (by decide) (fun z => absurd z (by decide)) (fun _ => ?_)
  refine g_iload_n C dX6_rule_17 rfl ?_
  refine g_iconst C dX6_rule_18 (v := -1) rfl ?_
  refine g_bipush C dX6_rule_19 (v := nI 7) rfl ?_
  refine g_callS C dX6_rule_21 cw_X6_45 (r_in G M c (-1) (nI 7)) rfl rfl (Nat.le_of_ble_eq_true rfl) (by omega) (by omega) (by omega) (by omega) (fun u M3 hq => ?_)
  obtain ⟨hM, rfl⟩ := hq
  rw [hM, pB_of okS_b]
  clear hM
  show GW G X 7 M 0 0 24 _ [.int (bI (pB (okS c)))]
  by_cases hc : okS c
  rotate_left
  · rw [pB_f hc]
    exact g_if_eq C dX6_rule_24 (tgt := 53) (by decide) (fun _ => no (fun z => hc z.2.2.1)) (fun z => absurd (by decide) z)
  rw [pB_t hc]
  refine g_if_eq C dX6_rule_24 (tgt := 53) (by decide) (fun z => absurd z (by decide)) (fun _ => ?_)
  refine g_iload C dX6_rule_27 rfl ?_
  refine g_iconst C dX6_rule_29 (v := -1) rfl ?_
  refine g_bipush C dX6_rule_30 (v := nI 7) rfl ?_
  refine g_callS C dX6_rule_32 cw_X6_45 (r_in G M d (-1) (nI 7)) rfl rfl (Nat.le_of_ble_eq_true rfl) (by omega) (by omega) (by omega) (by omega) (fun u M4 hq => ?_)
  obtain ⟨hM, rfl⟩ := hq
  rw [hM, pB_of okS_b]
  clear hM
  show GW G X 7 M 0 0 35 _ [.int (bI (pB (okS d)))]
  by_cases hd : okS d
  rotate_left
  · rw [pB_f hd]
    exact g_if_eq C dX6_rule_35 (tgt := 53) (by decide) (fun _ => no (fun z => hd z.2.2.2.1)) (fun z => absurd (by decide) z)
  rw [pB_t hd]
  refine g_if_eq C dX6_rule_35 (tgt := 53) (by decide) (fun z => absurd z (by decide)) (fun _ => ?_)
  refine g_iload C dX6_rule_38 rfl ?_
  refine g_iconst C dX6_rule_40 (v := -1) rfl ?_
  refine g_bipush C dX6_rule_41 (v := nI 7) rfl ?_
  refine g_callS C dX6_rule_43 cw_X6_45 (r_in G M e (-1) (nI 7)) rfl rfl (Nat.le_of_ble_eq_true rfl) (by omega) (by omega) (by omega) (by omega) (fun u M5 hq => ?_)
  obtain ⟨hM, rfl⟩ := hq
  rw [hM, pB_of okS_b]
  clear hM
  show GW G X 7 M 0 0 46 _ [.int (bI (pB (okS e)))]
  by_cases he : okS e
  rotate_left
  · rw [pB_f he]
    exact g_if_eq C dX6_rule_46 (tgt := 53) (by decide) (fun _ => no (fun z => he z.2.2.2.2)) (fun z => absurd (by decide) z)
  rw [pB_t he]
  refine g_if_eq C dX6_rule_46 (tgt := 53) (by decide) (fun z => absurd z (by decide)) (fun _ => ?_)
  rw [pB_t ⟨h1, hb, hc, hd, he⟩] at kk
  refine g_iconst C dX6_rule_49 (v := nI 1) rfl ?_
  refine g_goto C dX6_rule_50 (tgt := 54) (by decide) ?_
  refine g_istore C dX6_rule_54 (by decide) ?_
  exact kk

set_option maxHeartbeats 4000000 in
set_option maxRecDepth 100000 in
theorem l_qb {G : fm_G} {rd : Nat → Nat} {S : Rs} {M : fm_M} {X : fm_X} {fr lo mc ms : Nat} {a : Ab} {x b c d e : Int32} {g : Bool} (C : GC G X RX6 cX6_rule 7 (fr + 2) (lo + 42) mc ms) (Pi : RPic G rd S M) (ha : AbOk a) (h : RR a S) (kk : ∀ S' M1, RPic G rd S' M1 → RFr rd M M1 → rsI S S' 0 (nI (thq (!g) (decide (a.nR = 10)) false)) → GW G X 7 M1 0 0 85 ([(0, .ref (rd 0)), (1, .int x), (2, .int b), (3, .int c), (4, .int d), (5, .int e), (6, .int (bI g))]) [.int (bI (!g || (decide (a.nR = 10) || false)))]) : GW G X 7 M 0 0 56 ([(0, .ref (rd 0)), (1, .int x), (2, .int b), (3, .int c), (4, .int d), (5, .int e), (6, .int (bI g))]) [] := by
  have h10 := ha.1
  have e0 : S.2 1 = nI a.nR := h.1.1
  have fin : GW G X 7 M 0 0 81 ([(0, .ref (rd 0)), (1, .int x), (2, .int b), (3, .int c), (4, .int d), (5, .int e), (6, .int (bI g))]) [.int (bI (decide (a.nR = 10))), .int (bI (!g)), .ref (rd 0)] := by
    refine g_iconst C dX6_rule_81 (v := nI 0) rfl ?_
    refine g_callV (ci := 6) C dX6_rule_82 cw_X6_56 rfl (r_refuse G rd S M Pi (!g) (decide (a.nR = 10)) false) Pi.ob rfl rfl (Nat.le_of_ble_eq_true rfl) (by omega) (by omega) (by omega) (by omega) (fun u M1 hq => ?_)
    obtain ⟨rfl, S1, P1, F1, A1⟩ := hq
    exact kk S1 M1 P1 F1 A1
  have mid : GW G X 7 M 0 0 67 ([(0, .ref (rd 0)), (1, .int x), (2, .int b), (3, .int c), (4, .int d), (5, .int e), (6, .int (bI g))]) [.int (bI (!g)), .ref (rd 0)] := by
    refine g_aload_n C dX6_rule_67 rfl ?_
    refine g_getf C fl_X6_53 dX6_rule_68 Pi.ob rfl ?_
    rw [e0]
    refine g_bipush C dX6_rule_71 (v := nI 10) rfl ?_
    refine g_icmp_neN C dX6_rule_73 (tgt := 80) (by decide) (by omega) (by decide) (fun z => ?_) (fun z => ?_)
    · rw [decide_eq_false z] at fin
      refine g_iconst C dX6_rule_80 (v := nI 0) rfl ?_
      exact fin
    · rw [decide_eq_true z] at fin
      refine g_iconst C dX6_rule_76 (v := nI 1) rfl ?_
      refine g_goto C dX6_rule_77 (tgt := 81) (by decide) ?_
      exact fin
  refine g_aload_n C dX6_rule_56 rfl ?_
  refine g_iload C dX6_rule_57 rfl ?_
  cases g with
  | true =>
    refine g_if_ne C dX6_rule_59 (tgt := 66) (by decide) (fun _ => ?_) (fun z => absurd z (by decide))
    refine g_iconst C dX6_rule_66 (v := nI 0) rfl ?_
    exact mid
  | false =>
    refine g_if_ne C dX6_rule_59 (tgt := 66) (by decide) (fun z => absurd (by decide) z) (fun _ => ?_)
    refine g_iconst C dX6_rule_62 (v := nI 1) rfl ?_
    refine g_goto C dX6_rule_63 (tgt := 67) (by decide) ?_
    exact mid

set_option maxHeartbeats 4000000 in
set_option maxRecDepth 100000 in
theorem r_rule_no (G : fm_G) (rd : Nat → Nat) (S : Rs) (M : fm_M) (Pi : RPic G rd S M) (a : Ab) (ha : AbOk a) (h : RR a S) (x b c d e : Int32) (hn : ¬ (okN x ∧ okS b ∧ okS c ∧ okS d ∧ okS e) ∨ a.nR = 10) : fm_Ct G yX6_rule cX6_rule 7 (some .int) 2 42 0 0 [.ref (rd 0), .int x, .int b, .int c, .int d, .int e] M (fun v M1 => ∃ S', v = some (.int (nI 0)) ∧ RPic G rd S' M1 ∧ RFr rd M M1 ∧ RR a S' ∧ S'.2 0 = nI (if pB (okN x ∧ okS b ∧ okS c ∧ okS d ∧ okS e) = true then 2 else 1)) := by
  refine fm_head (by decide) (Nat.le_of_ble_eq_true rfl) rfl (fun X C N0 rt => ?_)
  refine l_qa (fr := 0) (lo := 0) (S := S) C ?_
  refine l_qb (fr := 0) (lo := 0) C Pi ha h (fun S1 M1 P1 F1 A1 => ?_)
  have hb : (!(pB (okN x ∧ okS b ∧ okS c ∧ okS d ∧ okS e)) || (decide (a.nR = 10) || false)) = true := by
    rcases hn with z | z
    · rw [pB_f z]; rfl
    · rw [decide_eq_true z, Bool.or_false, Bool.or_true]
  rw [hb]
  refine g_if_eq C dX6_rule_85 (tgt := 90) (by decide) (fun z => absurd z (by decide)) (fun _ => ?_)
  refine g_iconst C dX6_rule_88 (v := nI 0) rfl ?_
  refine rt (some (.int _)) M1 _ _ _ _ (fm_retI dX6_rule_89) ⟨S1, rfl, P1, F1, A1.RR0 h, ?_⟩ (Nat.le_refl _) (Nat.le_refl _)
  rw [A1.at]
  unfold thq
  cases hp : pB (okN x ∧ okS b ∧ okS c ∧ okS d ∧ okS e) with
  | false => rfl
  | true =>
    have : a.nR = 10 := hn.resolve_left (fun z => z (pB_iff.mp hp))
    rw [decide_eq_true this]; rfl

set_option maxHeartbeats 4000000 in
set_option maxRecDepth 100000 in
theorem r_rule_ok (G : fm_G) (rd : Nat → Nat) (S : Rs) (M : fm_M) (Pi : RPic G rd S M) (a : Ab) (ha : AbOk a) (h : RR a S) (lf : Nat) (f : Nat → Nat) (hlf : lf < 5) (hf : ∀ p, p < 4 → f p < 9) (h9 : a.nR < 10) : fm_Ct G yX6_rule cX6_rule 7 (some .int) 2 42 0 0 [.ref (rd 0), .int (nI lf), .int (dn (f 0)), .int (dn (f 1)), .int (dn (f 2)), .int (dn (f 3))] M (fun v M1 => ∃ S', v = some (.int (nI a.nR)) ∧ RPic G rd S' M1 ∧ RFr rd M M1 ∧ RR (abR a lf f) S' ∧ S'.2 0 = nI 0) := by
  have hok : okN (nI lf) ∧ okS (dn (f 0)) ∧ okS (dn (f 1)) ∧ okS (dn (f 2)) ∧ okS (dn (f 3)) := ⟨⟨lf, hlf, rfl⟩, ⟨_, hf 0 (by decide), rfl⟩, ⟨_, hf 1 (by decide), rfl⟩, ⟨_, hf 2 (by decide), rfl⟩, ⟨_, hf 3 (by decide), rfl⟩⟩
  obtain ⟨q1, q2, q3, q4, q5⟩ := h
  refine fm_head (by decide) (Nat.le_of_ble_eq_true rfl) rfl (fun X C N0 rt => ?_)
  refine l_qa (fr := 0) (lo := 0) (S := S) C ?_
  refine l_qb (fr := 0) (lo := 0) C Pi ha ⟨q1, q2, q3, q4, q5⟩ (fun S1 M1 P1 F1 A1 => ?_)
  rw [pB_t hok, decide_eq_false (show ¬ a.nR = 10 by omega)] at A1 ⊢
  have e1 : S1.2 1 = nI a.nR := by rw [A1.ne (by decide)]; exact q1.1
  refine g_if_eq C dX6_rule_85 (tgt := 90) (by decide) (fun _ => ?_) (fun z => absurd (by decide) z)
  refine g_aload_n C dX6_rule_90 rfl ?_
  refine g_getf C fl_X6_7 dX6_rule_91 P1.ob rfl ?_
  refine g_aload_n C dX6_rule_94 rfl ?_
  refine g_getf C fl_X6_53 dX6_rule_95 P1.ob rfl ?_
  rw [e1]
  refine g_iload_n C dX6_rule_98 rfl ?_
  refine g_iastN C dX6_rule_99 P1.k1 h9 (by decide) ?_
  refine g_abs (fun M' => ∃ S2, RPic G rd S2 M' ∧ RFr rd M M' ∧ raI S1 S2 1 (upd (S1.1 1) a.nR (nI lf))) ⟨_, P1.ar (n := 10) (by decide) (by decide) _ rfl, F1.st (k := 1) (by decide), rfl, rfl⟩ (fun M2 ⟨S2, P2, F2, A2⟩ => ?_)
  have e2 : S2.2 1 = nI a.nR := by rw [A2.2]; exact e1
  refine g_aload_n C dX6_rule_100 rfl ?_
  refine g_getf C fl_X6_13 dX6_rule_101 P2.ob rfl ?_
  refine g_iconst C dX6_rule_104 (v := nI 4) rfl ?_
  refine g_aload_n C dX6_rule_105 rfl ?_
  refine g_getf C fl_X6_53 dX6_rule_106 P2.ob rfl ?_
  rw [e2]
  refine g_imul C dX6_rule_109 ?_
  refine g_topI (pk_mul 4 _) ?_
  refine g_iload_n C dX6_rule_110 rfl ?_
  refine g_iastN C dX6_rule_111 P2.k2 (show 4 * a.nR < 40 by omega) (by decide) ?_
  refine g_abs (fun M' => ∃ S3, RPic G rd S3 M' ∧ RFr rd M M' ∧ raI S2 S3 2 (upd (S2.1 2) (4 * a.nR) (dn (f 0)))) ⟨_, P2.ar (n := 40) (by decide) (by decide) _ rfl, F2.st (k := 2) (by decide), rfl, rfl⟩ (fun M3 ⟨S3, P3, F3, A3⟩ => ?_)
  have e3 : S3.2 1 = nI a.nR := by rw [A3.2]; exact e2
  refine g_aload_n C dX6_rule_112 rfl ?_
  refine g_getf C fl_X6_13 dX6_rule_113 P3.ob rfl ?_
  refine g_iconst C dX6_rule_116 (v := nI 4) rfl ?_
  refine g_aload_n C dX6_rule_117 rfl ?_
  refine g_getf C fl_X6_53 dX6_rule_118 P3.ob rfl ?_
  rw [e3]
  refine g_imul C dX6_rule_121 ?_
  refine g_topI (pk_mul 4 _) ?_
  refine g_iconst C dX6_rule_122 (v := nI 1) rfl ?_
  refine g_iadd C dX6_rule_123 ?_
  refine g_topI (nI_add _ _) ?_
  refine g_iload_n C dX6_rule_124 rfl ?_
  refine g_iastN C dX6_rule_125 P3.k2 (show 4 * a.nR + 1 < 40 by omega) (by decide) ?_
  refine g_abs (fun M' => ∃ S4, RPic G rd S4 M' ∧ RFr rd M M' ∧ raI S3 S4 2 (upd (S3.1 2) (4 * a.nR + 1) (dn (f 1)))) ⟨_, P3.ar (n := 40) (by decide) (by decide) _ rfl, F3.st (k := 2) (by decide), rfl, rfl⟩ (fun M4 ⟨S4, P4, F4, A4⟩ => ?_)
  have e4 : S4.2 1 = nI a.nR := by rw [A4.2]; exact e3
  refine g_aload_n C dX6_rule_126 rfl ?_
  refine g_getf C fl_X6_13 dX6_rule_127 P4.ob rfl ?_
  refine g_iconst C dX6_rule_130 (v := nI 4) rfl ?_
  refine g_aload_n C dX6_rule_131 rfl ?_
  refine g_getf C fl_X6_53 dX6_rule_132 P4.ob rfl ?_
  rw [e4]
  refine g_imul C dX6_rule_135 ?_
  refine g_topI (pk_mul 4 _) ?_
  refine g_iconst C dX6_rule_136 (v := nI 2) rfl ?_
  refine g_iadd C dX6_rule_137 ?_
  refine g_topI (nI_add _ _) ?_
  refine g_iload C dX6_rule_138 rfl ?_
  refine g_iastN C dX6_rule_140 P4.k2 (show 4 * a.nR + 2 < 40 by omega) (by decide) ?_
  refine g_abs (fun M' => ∃ S5, RPic G rd S5 M' ∧ RFr rd M M' ∧ raI S4 S5 2 (upd (S4.1 2) (4 * a.nR + 2) (dn (f 2)))) ⟨_, P4.ar (n := 40) (by decide) (by decide) _ rfl, F4.st (k := 2) (by decide), rfl, rfl⟩ (fun M5 ⟨S5, P5, F5, A5⟩ => ?_)
  have e5 : S5.2 1 = nI a.nR := by rw [A5.2]; exact e4
  refine g_aload_n C dX6_rule_141 rfl ?_
  refine g_getf C fl_X6_13 dX6_rule_142 P5.ob rfl ?_
  refine g_iconst C dX6_rule_145 (v := nI 4) rfl ?_
  refine g_aload_n C dX6_rule_146 rfl ?_
  refine g_getf C fl_X6_53 dX6_rule_147 P5.ob rfl ?_
  rw [e5]
  refine g_imul C dX6_rule_150 ?_
  refine g_topI (pk_mul 4 _) ?_
  refine g_iconst C dX6_rule_151 (v := nI 3) rfl ?_
  refine g_iadd C dX6_rule_152 ?_
  refine g_topI (nI_add _ _) ?_
  refine g_iload C dX6_rule_153 rfl ?_
  refine g_iastN C dX6_rule_155 P5.k2 (show 4 * a.nR + 3 < 40 by omega) (by decide) ?_
  refine g_abs (fun M' => ∃ S6, RPic G rd S6 M' ∧ RFr rd M M' ∧ raI S5 S6 2 (upd (S5.1 2) (4 * a.nR + 3) (dn (f 3)))) ⟨_, P5.ar (n := 40) (by decide) (by decide) _ rfl, F5.st (k := 2) (by decide), rfl, rfl⟩ (fun M6 ⟨S6, P6, F6, A6⟩ => ?_)
  have e6 : S6.2 1 = nI a.nR := by rw [A6.2]; exact e5
  refine g_aload_n C dX6_rule_156 rfl ?_
  refine g_getf C fl_X6_16 dX6_rule_157 P6.ob rfl ?_
  refine g_aload_n C dX6_rule_160 rfl ?_
  refine g_getf C fl_X6_53 dX6_rule_161 P6.ob rfl ?_
  rw [e6]
  refine g_iconst C dX6_rule_164 (v := nI 0) rfl ?_
  refine g_iastN C dX6_rule_165 P6.k3 h9 (by decide) ?_
  refine g_abs (fun M' => ∃ S7, RPic G rd S7 M' ∧ RFr rd M M' ∧ raI S6 S7 3 (upd (S6.1 3) a.nR (nI 0))) ⟨_, P6.ar (n := 10) (by decide) (by decide) _ rfl, F6.st (k := 3) (by decide), rfl, rfl⟩ (fun M7 ⟨S7, P7, F7, A7⟩ => ?_)
  have e7 : S7.2 1 = nI a.nR := by rw [A7.2]; exact e6
  refine g_aload_n C dX6_rule_166 rfl ?_
  refine g_dup C dX6_rule_167 rfl ?_
  refine g_getf C fl_X6_53 dX6_rule_168 P7.ob rfl ?_
  rw [e7]
  refine g_iconst C dX6_rule_171 (v := nI 1) rfl ?_
  refine g_iadd C dX6_rule_172 ?_
  refine g_topI (nI_add _ 1) ?_
  refine g_putf C fl_X6_53 rfl dX6_rule_173 P7.ob rfl rfl (Nat.le_of_ble_eq_true rfl) ?_
  refine g_abs (fun M' => ∃ S8, RPic G rd S8 M' ∧ RFr rd M M' ∧ rsI S7 S8 1 (nI (a.nR + 1))) ⟨_, P7.sc 1 _ rfl, F7.st (k := 0) (by decide), rfl, rfl⟩ (fun M8 ⟨S8, P8, F8, A8⟩ => ?_)
  refine g_aload_n C dX6_rule_176 rfl ?_
  refine g_iconst C dX6_rule_177 (v := nI 0) rfl ?_
  refine g_putf C fl_X6_60 rfl dX6_rule_178 P8.ob rfl rfl (Nat.le_of_ble_eq_true rfl) ?_
  refine g_abs (fun M' => ∃ S9, RPic G rd S9 M' ∧ RFr rd M M' ∧ rsI S8 S9 2 (nI 0)) ⟨_, P8.sc 2 _ rfl, F8.st (k := 0) (by decide), rfl, rfl⟩ (fun M9 ⟨S9, P9, F9, A9⟩ => ?_)
  refine g_aload_n C dX6_rule_181 rfl ?_
  refine g_iconst C dX6_rule_182 (v := -1) rfl ?_
  refine g_putf C fl_X6_26 rfl dX6_rule_183 P9.ob rfl rfl (Nat.le_of_ble_eq_true rfl) ?_
  refine g_abs (fun M' => ∃ S10, RPic G rd S10 M' ∧ RFr rd M M' ∧ rsI S9 S10 3 (-1)) ⟨_, P9.sc 3 _ rfl, F9.st (k := 0) (by decide), rfl, rfl⟩ (fun M10 ⟨S10, P10, F10, A10⟩ => ?_)
  have e10 : S10.2 1 = nI (a.nR + 1) := by rw [A10.ne (by decide), A9.ne (by decide), A8.at]
  refine g_aload_n C dX6_rule_186 rfl ?_
  refine g_getf C fl_X6_53 dX6_rule_187 P10.ob rfl ?_
  rw [e10]
  refine g_iconst C dX6_rule_190 (v := nI 1) rfl ?_
  refine g_isub C dX6_rule_191 ?_
  refine g_topI (pk_sub (show 1 ≤ a.nR + 1 by omega)) ?_
  have k1 : S10.1 1 = upd (S.1 1) a.nR (nI lf) := by rw [A10.1, A9.1, A8.1, A7.ne (by decide), A6.ne (by decide), A5.ne (by decide), A4.ne (by decide), A3.ne (by decide), A2.at, A1.1]
  have k3 : S10.1 3 = upd (S.1 3) a.nR (nI 0) := by rw [A10.1, A9.1, A8.1, A7.at, A6.ne (by decide), A5.ne (by decide), A4.ne (by decide), A3.ne (by decide), A2.ne (by decide), A1.1]
  have k2 : S10.1 2 = upd (upd (upd (upd (S.1 2) (4 * a.nR) (dn (f 0))) (4 * a.nR + 1) (dn (f 1))) (4 * a.nR + 2) (dn (f 2))) (4 * a.nR + 3) (dn (f 3)) := by rw [A10.1, A9.1, A8.1, A7.ne (by decide), A6.at, A5.at, A4.at, A3.at, A2.ne (by decide), A1.1]
  refine rt (some (.int _)) M10 _ _ _ _ (fm_retI dX6_rule_192) ⟨S10, rfl, P10, F10, ⟨⟨e10, fun r hr => ⟨?_, fun p hp => ?_⟩⟩, fun r hr => ?_, Or.inl ⟨rfl, A10.at⟩, fun t ht => absurd ht (Nat.not_lt_zero t), Or.inl ?_⟩, ?_⟩ (Nat.le_refl _) (Nat.le_refl _)
  · have hr : r < a.nR + 1 := hr
    show S10.1 1 r = nI (if r = a.nR then lf else a.lf r)
    rw [k1]
    by_cases he : r = a.nR
    · subst he; rw [pk_us, if_pos rfl]
    · rw [pk_un he, if_neg he]; exact (q1.2 r (by omega)).1
  · have hr : r < a.nR + 1 := hr
    show S10.1 2 (4 * r + p) = dn ((if r = a.nR then f else a.sy r) p)
    rw [k2]
    by_cases he : r = a.nR
    · subst he
      rw [if_pos rfl]
      rcases (show p = 0 ∨ p = 1 ∨ p = 2 ∨ p = 3 by omega) with rfl | rfl | rfl | rfl
      · rw [pk_un (by omega), pk_un (by omega), pk_un (by omega)]; exact pk_us
      · rw [pk_un (by omega), pk_un (by omega)]; exact pk_us
      · rw [pk_un (by omega)]; exact pk_us
      · exact pk_us
    · rw [if_neg he, pk_un (by omega), pk_un (by omega), pk_un (by omega), pk_un (by omega)]
      exact (q1.2 r (by omega)).2 p hp
  · have hr : r < a.nR + 1 := hr
    show S10.1 3 r = nI (if r = a.nR then 0 else a.us r)
    rw [k3]
    by_cases he : r = a.nR
    · subst he; rw [pk_us, if_pos rfl]
    · rw [pk_un he, if_neg he]; exact q2 r (by omega)
  · rw [A10.ne (by decide), A9.at]
  · rw [A10.ne (by decide), A9.ne (by decide), A8.ne (by decide), A7.2, A6.2, A5.2, A4.2, A3.2, A2.2, A1.at]; rfl

set_option maxHeartbeats 4000000 in
set_option maxRecDepth 100000 in
theorem r_isCount (G : fm_G) (M : fm_M) (n x y z : Int32) : fm_Ct G yX6_isCount cX6_isCount 4 (some .boolean) 2 42 0 0 [.int n, .int x, .int y, .int z] M (fun v M1 => M1 = M ∧ v = some (.int (bI (pB (okN n ∧ okM x ∧ okM y ∧ okM z))))) := by
  have no : ∀ (X : fm_X), GC G X RX6 cX6_isCount 4 2 42 0 0 → ¬ (okN n ∧ okM x ∧ okM y ∧ okM z) → (∀ (v : Option Value) (M1 : fm_M) (k n' pc : Nat) (ls : List (Nat × Value)), fm_ret cX6_isCount pc (some .boolean) v → (M1 = M ∧ v = some (.int (bI (pB (okN n ∧ okM x ∧ okM y ∧ okM z))))) → k ≤ 0 → n' ≤ 0 → GW G X 4 M1 k n' pc ls v.toList) → ∀ ls, GW G X 4 M 0 0 41 ls [] := by
    intro X C hn rt ls
    rw [pB_f hn] at rt
    refine g_iconst C dX6_isCount_41 (v := nI 0) rfl ?_
    exact rt (some (.int (bI false))) M _ _ _ _ (fm_retZ (bI_01 false) dX6_isCount_42) ⟨rfl, rfl⟩ (Nat.le_refl _) (Nat.le_refl _)
  refine fm_head (by decide) (Nat.le_of_ble_eq_true rfl) rfl (fun X C N0 rt => ?_)
  refine g_iload_n C dX6_isCount_0 rfl ?_
  refine g_callS C dX6_isCount_1 cw_X6_49 (r_isN G M n) rfl rfl (Nat.le_of_ble_eq_true rfl) (by decide) (by decide) (by decide) (by decide) (fun u M1 hq => ?_)
  obtain ⟨hM, rfl⟩ := hq
  rw [hM]
  clear hM
  show GW G X 4 M 0 0 4 _ [.int (bI (pB (okN n)))]
  by_cases h1 : okN n
  rotate_left
  · rw [pB_f h1]
    exact g_if_eq C dX6_isCount_4 (tgt := 41) (by decide) (fun _ => no X C (fun q => h1 q.1) rt _) (fun q => absurd (by decide) q)
  rw [pB_t h1]
  refine g_if_eq C dX6_isCount_4 (tgt := 41) (by decide) (fun q => absurd q (by decide)) (fun _ => ?_)
  refine g_iload_n C dX6_isCount_7 rfl ?_
  refine g_iconst C dX6_isCount_8 (v := nI 0) rfl ?_
  refine g_bipush C dX6_isCount_9 (v := nI 7) rfl ?_
  refine g_callS C dX6_isCount_11 cw_X6_45 (r_in G M x (nI 0) (nI 7)) rfl rfl (Nat.le_of_ble_eq_true rfl) (by decide) (by decide) (by decide) (by decide) (fun u M2 hq => ?_)
  obtain ⟨hM, rfl⟩ := hq
  rw [hM, pB_of okM_b]
  clear hM
  show GW G X 4 M 0 0 14 _ [.int (bI (pB (okM x)))]
  by_cases hx : okM x
  rotate_left
  · rw [pB_f hx]
    exact g_if_eq C dX6_isCount_14 (tgt := 41) (by decide) (fun _ => no X C (fun q => hx q.2.1) rt _) (fun q => absurd (by decide) q)
  rw [pB_t hx]
  refine g_if_eq C dX6_isCount_14 (tgt := 41) (by decide) (fun q => absurd q (by decide)) (fun _ => ?_)
  refine g_iload_n C dX6_isCount_17 rfl ?_
  refine g_iconst C dX6_isCount_18 (v := nI 0) rfl ?_
  refine g_bipush C dX6_isCount_19 (v := nI 7) rfl ?_
  refine g_callS C dX6_isCount_21 cw_X6_45 (r_in G M y (nI 0) (nI 7)) rfl rfl (Nat.le_of_ble_eq_true rfl) (by decide) (by decide) (by decide) (by decide) (fun u M3 hq => ?_)
  obtain ⟨hM, rfl⟩ := hq
  rw [hM, pB_of okM_b]
  clear hM
  show GW G X 4 M 0 0 24 _ [.int (bI (pB (okM y)))]
  by_cases hy : okM y
  rotate_left
  · rw [pB_f hy]
    exact g_if_eq C dX6_isCount_24 (tgt := 41) (by decide) (fun _ => no X C (fun q => hy q.2.2.1) rt _) (fun q => absurd (by decide) q)
  rw [pB_t hy]
  refine g_if_eq C dX6_isCount_24 (tgt := 41) (by decide) (fun q => absurd q (by decide)) (fun _ => ?_)
  refine g_iload_n C dX6_isCount_27 rfl ?_
  refine g_iconst C dX6_isCount_28 (v := nI 0) rfl ?_
  refine g_bipush C dX6_isCount_29 (v := nI 7) rfl ?_
  refine g_callS C dX6_isCount_31 cw_X6_45 (r_in G M z (nI 0) (nI 7)) rfl rfl (Nat.le_of_ble_eq_true rfl) (by decide) (by decide) (by decide) (by decide) (fun u M4 hq => ?_)
  obtain ⟨hM, rfl⟩ := hq
  rw [hM, pB_of okM_b]
  clear hM
  show GW G X 4 M 0 0 34 _ [.int (bI (pB (okM z)))]
  by_cases hz : okM z
  rotate_left
  · rw [pB_f hz]
    exact g_if_eq C dX6_isCount_34 (tgt := 41) (by decide) (fun _ => no X C (fun q => hz q.2.2.2) rt _) (fun q => absurd (by decide) q)
  rw [pB_t hz]
  refine g_if_eq C dX6_isCount_34 (tgt := 41) (by decide) (fun q => absurd q (by decide)) (fun _ => ?_)
  rw [pB_t ⟨h1, hx, hy, hz⟩] at rt
  refine g_iconst C dX6_isCount_37 (v := nI 1) rfl ?_
  refine g_goto C dX6_isCount_38 (tgt := 42) (by decide) ?_
  exact rt (some (.int (bI true))) M _ _ _ _ (fm_retZ (bI_01 true) dX6_isCount_42) ⟨rfl, rfl⟩ (Nat.le_refl _) (Nat.le_refl _)

set_option maxHeartbeats 4000000 in
set_option maxRecDepth 100000 in
theorem l_rheight {G : fm_G} {rd : Nat → Nat} {S : Rs} {M : fm_M} {X : fm_X} {n x y z : Int32} (C : GC G X RX6 cX6_height 6 5 123 0 0) (Pi : RPic G rd S M) (cont : ∀ S1 M1, RPic G rd S1 M1 → RFr rd M M1 → rsI S S1 0 (nI (thq (!(pB (okN n ∧ okM x ∧ okM y ∧ okM z))) false false)) → GW G X 6 M1 0 0 22 [(0, .ref (rd 0)), (1, .int n), (2, .int x), (3, .int y), (4, .int z)] [.int (bI (!(pB (okN n ∧ okM x ∧ okM y ∧ okM z))))]) : GW G X 6 M 0 0 0 [(0, .ref (rd 0)), (1, .int n), (2, .int x), (3, .int y), (4, .int z)] [] := by
  refine g_aload_n C dX6_height_0 rfl ?_
  refine g_iload_n C dX6_height_1 rfl ?_
  refine g_iload_n C dX6_height_2 rfl ?_
  refine g_iload_n C dX6_height_3 rfl ?_
  refine g_iload C dX6_height_4 rfl ?_
  refine g_callS C dX6_height_6 cw_X6_91 (r_isCount G M n x y z) rfl rfl (Nat.le_of_ble_eq_true rfl) (by decide) (by decide) (by decide) (by decide) (fun u M0 hq => ?_)
  obtain ⟨hM, rfl⟩ := hq
  rw [hM]
  clear hM
  show GW G X 6 M 0 0 9 _ [.int (bI (pB (okN n ∧ okM x ∧ okM y ∧ okM z))), .ref (rd 0)]
  have fin : ∀ g, g = !(pB (okN n ∧ okM x ∧ okM y ∧ okM z)) → GW G X 6 M 0 0 17 [(0, .ref (rd 0)), (1, .int n), (2, .int x), (3, .int y), (4, .int z)] [.int (bI g), .ref (rd 0)] := by
    intro g hg
    refine g_iconst C dX6_height_17 (v := nI 0) rfl ?_
    refine g_iconst C dX6_height_18 (v := nI 0) rfl ?_
    refine g_callV (ci := 6) C dX6_height_19 cw_X6_56 rfl (r_refuse G rd S M Pi g false false) Pi.ob rfl rfl (Nat.le_of_ble_eq_true rfl) (by decide) (by decide) (by decide) (by decide) (fun u M1 hq => ?_)
    obtain ⟨rfl, S1, P1, F1, A1⟩ := hq
    rw [Bool.or_false, Bool.or_false, hg]
    rw [hg] at A1
    exact cont S1 M1 P1 F1 A1
  cases hb : (pB (okN n ∧ okM x ∧ okM y ∧ okM z)) with
  | true =>
    rw [hb] at fin
    refine g_if_ne C dX6_height_9 (tgt := 16) (by decide) (fun _ => ?_) (fun q => absurd q (by decide))
    refine g_iconst C dX6_height_16 (v := nI 0) rfl ?_
    exact fin false rfl
  | false =>
    rw [hb] at fin
    refine g_if_ne C dX6_height_9 (tgt := 16) (by decide) (fun q => absurd (by decide) q) (fun _ => ?_)
    refine g_iconst C dX6_height_12 (v := nI 1) rfl ?_
    refine g_goto C dX6_height_13 (tgt := 17) (by decide) ?_
    exact fin true rfl

set_option maxHeartbeats 4000000 in
set_option maxRecDepth 100000 in
theorem r_height_no (G : fm_G) (rd : Nat → Nat) (S : Rs) (M : fm_M) (Pi : RPic G rd S M) (a : Ab) (ha : AbOk a) (h : RR a S) (n x y z : Int32) (hn : ¬ (okN n ∧ okM x ∧ okM y ∧ okM z)) : fm_Ct G yX6_height cX6_height 6 (some .int) 5 123 0 0 [.ref (rd 0), .int n, .int x, .int y, .int z] M (fun v M1 => ∃ S', v = some (.int (nI 0)) ∧ RPic G rd S' M1 ∧ RFr rd M M1 ∧ RR a S' ∧ S'.2 0 = nI 1) := by
  refine fm_head (by decide) (Nat.le_of_ble_eq_true rfl) rfl (fun X C N0 rt => ?_)
  refine l_rheight C Pi (fun S1 M1 P1 F1 A1 => ?_)
  rw [pB_f hn] at A1 ⊢
  refine g_if_eq C dX6_height_22 (tgt := 27) (by decide) (fun q => absurd q (by decide)) (fun _ => ?_)
  refine g_iconst C dX6_height_25 (v := nI 0) rfl ?_
  exact rt (some (.int _)) M1 _ _ _ _ (fm_retI dX6_height_26) ⟨S1, rfl, P1, F1, A1.RR0 h, A1.at⟩ (Nat.le_refl _) (Nat.le_refl _)

set_option maxHeartbeats 4000000 in
set_option maxRecDepth 100000 in
theorem r_height (G : fm_G) (rd : Nat → Nat) (S : Rs) (M : fm_M) (Pi : RPic G rd S M) (a : Ab) (ha : AbOk a) (h : RR a S) (n x y z : Nat) (hn : n < 5) (hx : x < 8) (hy : y < 8) (hz : z < 8) : fm_Ct G yX6_height cX6_height 6 (some .int) 5 123 0 0 [.ref (rd 0), .int (nI n), .int (nI x), .int (nI y), .int (nI z)] M (fun v M1 => ∃ S' i, v = some (.int i) ∧ HT (gO a) n (x + 8 * y + 64 * z) i ∧ RPic G rd S' M1 ∧ RFr rd M M1 ∧ RR a S' ∧ S'.2 0 = nI 0) := by
  have hok : okN (nI n) ∧ okM (nI x) ∧ okM (nI y) ∧ okM (nI z) := ⟨⟨n, hn, rfl⟩, ⟨x, hx, rfl⟩, ⟨y, hy, rfl⟩, ⟨z, hz, rfl⟩⟩
  refine fm_head (by decide) (Nat.le_of_ble_eq_true rfl) rfl (fun X C N0 rt => ?_)
  refine l_rheight C Pi (fun S1 M1 P1 F1 A1 => ?_)
  rw [pB_t hok] at A1 ⊢
  refine g_if_eq C dX6_height_22 (tgt := 27) (by decide) (fun _ => ?_) (fun q => absurd (by decide) q)
  refine g_aload_n C dX6_height_27 rfl ?_
  refine g_callV (ci := 6) C dX6_height_28 cw_X6_95 rfl (r_reckon G rd S1 M1 P1 a ha (A1.RR0 h)) P1.ob rfl rfl (Nat.le_of_ble_eq_true rfl) (by decide) (by decide) (by decide) (by decide) (fun u M2 hq => ?_)
  obtain ⟨rfl, S2, P2, F2, R2, w2, t2⟩ := hq
  have t2' : S2.2 0 = nI 0 := by rw [t2, A1.at]; rfl
  have hc : x + 8 * y + 64 * z < 512 := by omega
  show GW G X 6 M2 0 0 31 _ []
  refine g_aload_n C dX6_height_31 rfl ?_
  refine g_getf C fl_X6_19 dX6_height_32 P2.ob rfl ?_
  refine g_sipush C dX6_height_35 (v := nI 512) rfl ?_
  refine g_iload_n C dX6_height_38 rfl ?_
  refine g_imul C dX6_height_39 ?_
  refine g_topI (pk_mul 512 n) ?_
  refine g_iload_n C dX6_height_40 rfl ?_
  refine g_iadd C dX6_height_41 ?_
  refine g_topI (nI_add _ _) ?_
  refine g_bipush C dX6_height_42 (v := nI 8) rfl ?_
  refine g_iload_n C dX6_height_44 rfl ?_
  refine g_imul C dX6_height_45 ?_
  refine g_topI (pk_mul 8 y) ?_
  refine g_iadd C dX6_height_46 ?_
  refine g_topI (nI_add _ _) ?_
  refine g_bipush C dX6_height_47 (v := nI 64) rfl ?_
  refine g_iload C dX6_height_49 rfl ?_
  refine g_imul C dX6_height_51 ?_
  refine g_topI (pk_mul 64 z) ?_
  refine g_iadd C dX6_height_52 ?_
  refine g_topI (nI_add _ _) ?_
  rw [show 512 * n + x + 8 * y + 64 * z = 512 * n + (x + 8 * y + 64 * z) by omega]
  refine g_ialdN C dX6_height_53 P2.k4 (show 512 * n + (x + 8 * y + 64 * z) < 2560 by omega) (by decide) ?_
  refine g_istore C dX6_height_54 (by decide) ?_
  refine g_iload C dX6_height_56 rfl ?_
  rcases w2 n _ hn hc with ⟨q1, q2, q3⟩ | ⟨q1, q2⟩
  · have hp : 0 < hgt (gO a) n (x + 8 * y + 64 * z) := by obtain ⟨j, hj⟩ := q1; exact hgt_pos hj
    rw [q2]
    refine g_if_ne C dX6_height_58 (tgt := 65) (by decide) (fun _ => ?_) (fun q => absurd q (nI_ne0 hp (by omega)))
    refine g_iload C dX6_height_65 rfl ?_
    exact rt (some (.int _)) M2 _ _ _ _ (fm_retI dX6_height_67) ⟨S2, _, rfl, Or.inl ⟨q1, rfl⟩, P2, F1.tr F2, R2, t2'⟩ (Nat.le_refl _) (Nat.le_refl _)
  · rw [q2]
    refine g_if_ne C dX6_height_58 (tgt := 65) (by decide) (fun q => absurd (by decide) q) (fun _ => ?_)
    refine g_iconst C dX6_height_61 (v := -1) rfl ?_
    refine g_goto C dX6_height_62 (tgt := 67) (by decide) ?_
    exact rt (some (.int _)) M2 _ _ _ _ (fm_retI dX6_height_67) ⟨S2, _, rfl, Or.inr ⟨q1, rfl⟩, P2, F1.tr F2, R2, t2'⟩ (Nat.le_refl _) (Nat.le_refl _)

theorem mny_s (g : Gr) (n m : Nat) : mny g n (m + 1) = mny g n m + (if pB (Tr g n m) = true then 1 else 0) := rfl
theorem hw_pos {g : Gr} {F : Nat → Int32} (h : hwI g F) {n c : Nat} (hn : n < 5) (hc : c < 512) : (¬ F (512 * n + c) ≤ 0 ↔ Tr g n c) ∧ (¬ F (512 * n + c) = 0 ↔ Tr g n c) := by
  rcases h n c hn hc with ⟨q1, q2, q3⟩ | ⟨q1, q2⟩
  · have hp : 0 < hgt g n c := by obtain ⟨j, hj⟩ := q1; exact hgt_pos hj
    rw [q2]
    exact ⟨⟨fun _ => q1, fun _ => nI_nle hp (by omega)⟩, ⟨fun _ => q1, fun _ => nI_ne0 hp (by omega)⟩⟩
  · rw [q2]
    exact ⟨⟨fun z => absurd (by decide) z, fun z => absurd z q1⟩, ⟨fun z => absurd rfl z, fun z => absurd z q1⟩⟩

set_option maxHeartbeats 4000000 in
set_option maxRecDepth 100000 in
theorem l_manyOf {G : fm_G} {rd : Nat → Nat} {S : Rs} {M : fm_M} {X : fm_X} {fr lo mc ms : Nat} {a : Ab} {n : Nat} (C : GC G X RX6 cX6_manyOf 4 fr lo mc ms) (Pi : RPic G rd S M) (hw : hwI (gO a) (S.1 4)) (hn : n < 5) (kk : ∀ ls, fm_lk ls 2 = some (.int (nI (mny (gO a) n 512))) → GW G X 4 M 0 0 40 ls []) : ∀ d v, v + d = 512 → GW G X 4 M 0 0 4 [(0, .ref (rd 0)), (1, .int (nI n)), (2, .int (nI (mny (gO a) n v))), (3, .int (nI v))] [] := by
  intro d
  induction d with
  | zero =>
    intro v hv
    have e : v = 512 := by omega
    subst e
    refine g_iload_n C dX6_manyOf_4 rfl ?_
    refine g_sipush C dX6_manyOf_5 (v := nI 512) rfl ?_
    refine g_icmp_geN C dX6_manyOf_8 (tgt := 40) (by decide) (by decide) (by decide) (fun hb => kk _ rfl) (fun hb => absurd hb (by omega))
  | succ d ih =>
    intro v hv
    have ih1 := ih (v + 1) (by omega)
    rw [mny_s] at ih1
    have hp := (hw_pos hw hn (show v < 512 by omega)).1
    refine g_iload_n C dX6_manyOf_4 rfl ?_
    refine g_sipush C dX6_manyOf_5 (v := nI 512) rfl ?_
    refine g_icmp_geN C dX6_manyOf_8 (tgt := 40) (by decide) (by omega) (by decide) (fun hb => absurd hb (by omega)) (fun hb => ?_)
    refine g_aload_n C dX6_manyOf_11 rfl ?_
    refine g_getf C fl_X6_19 dX6_manyOf_12 Pi.ob rfl ?_
    refine g_sipush C dX6_manyOf_15 (v := nI 512) rfl ?_
    refine g_iload_n C dX6_manyOf_18 rfl ?_
    refine g_imul C dX6_manyOf_19 ?_
    refine g_topI (pk_mul 512 n) ?_
    refine g_iload_n C dX6_manyOf_20 rfl ?_
    refine g_iadd C dX6_manyOf_21 ?_
    refine g_topI (nI_add _ _) ?_
    refine g_ialdN C dX6_manyOf_22 Pi.k4 (show 512 * n + v < 2560 by omega) (by decide) ?_
    refine g_if_le C dX6_manyOf_23 (tgt := 32) (by decide) (fun h1 => ?_) (fun h1 => ?_)
    · rw [pB_f (fun z => (hp.mpr z) h1), if_neg Bool.false_ne_true] at ih1
      refine g_iload_n C dX6_manyOf_32 rfl ?_
      refine g_istore_n C dX6_manyOf_33 (by decide) ?_
      refine g_inc1 C dX6_manyOf_34 rfl (by decide) ?_
      refine g_goto C dX6_manyOf_37 (tgt := 4) (by decide) ?_
      exact ih1
    · rw [pB_t (hp.mp h1), if_pos rfl] at ih1
      refine g_iload_n C dX6_manyOf_26 rfl ?_
      refine g_iconst C dX6_manyOf_27 (v := nI 1) rfl ?_
      refine g_iadd C dX6_manyOf_28 ?_
      refine g_topI (nI_add _ _) ?_
      refine g_goto C dX6_manyOf_29 (tgt := 33) (by decide) ?_
      refine g_istore_n C dX6_manyOf_33 (by decide) ?_
      refine g_inc1 C dX6_manyOf_34 rfl (by decide) ?_
      refine g_goto C dX6_manyOf_37 (tgt := 4) (by decide) ?_
      exact ih1

set_option maxHeartbeats 4000000 in
set_option maxRecDepth 100000 in
theorem r_manyOf (G : fm_G) (rd : Nat → Nat) (S : Rs) (M : fm_M) (Pi : RPic G rd S M) (a : Ab) (hw : hwI (gO a) (S.1 4)) (n : Nat) (hn : n < 5) : fm_Ct G yX6_manyOf cX6_manyOf 4 (some .int) 0 0 0 0 [.ref (rd 0), .int (nI n)] M (fun v M1 => M1 = M ∧ v = some (.int (nI (mny (gO a) n 512)))) := by
  refine fm_head (by decide) (Nat.le_of_ble_eq_true rfl) rfl (fun X C N0 rt => ?_)
  refine g_iconst C dX6_manyOf_0 (v := nI 0) rfl ?_
  refine g_istore_n C dX6_manyOf_1 (by decide) ?_
  refine g_iconst C dX6_manyOf_2 (v := nI 0) rfl ?_
  refine g_istore_n C dX6_manyOf_3 (by decide) ?_
  refine l_manyOf C Pi hw hn (fun ls hls => ?_) 512 0 (by omega)
  refine g_iload_n C dX6_manyOf_40 hls ?_
  exact rt (some (.int _)) _ _ _ _ _ (fm_retI dX6_manyOf_41) ⟨rfl, rfl⟩ (Nat.le_refl _) (Nat.le_refl _)

set_option maxHeartbeats 4000000 in
set_option maxRecDepth 100000 in
theorem l_rmany {G : fm_G} {rd : Nat → Nat} {S : Rs} {M : fm_M} {X : fm_X} {n : Int32} (C : GC G X RX6 cX6_many 2 5 123 0 0) (Pi : RPic G rd S M) (cont : ∀ S1 M1, RPic G rd S1 M1 → RFr rd M M1 → rsI S S1 0 (nI (thq (!(pB (okN n))) false false)) → GW G X 2 M1 0 0 18 [(0, .ref (rd 0)), (1, .int n)] [.int (bI (!(pB (okN n))))]) : GW G X 2 M 0 0 0 [(0, .ref (rd 0)), (1, .int n)] [] := by
  refine g_aload_n C dX6_many_0 rfl ?_
  refine g_iload_n C dX6_many_1 rfl ?_
  refine g_callS C dX6_many_2 cw_X6_49 (r_isN G M n) rfl rfl (Nat.le_of_ble_eq_true rfl) (by decide) (by decide) (by decide) (by decide) (fun u M0 hq => ?_)
  obtain ⟨hM, rfl⟩ := hq
  rw [hM]
  clear hM
  show GW G X 2 M 0 0 5 _ [.int (bI (pB (okN n))), .ref (rd 0)]
  have fin : ∀ g, g = !(pB (okN n)) → GW G X 2 M 0 0 13 [(0, .ref (rd 0)), (1, .int n)] [.int (bI g), .ref (rd 0)] := by
    intro g hg
    refine g_iconst C dX6_many_13 (v := nI 0) rfl ?_
    refine g_iconst C dX6_many_14 (v := nI 0) rfl ?_
    refine g_callV (ci := 6) C dX6_many_15 cw_X6_56 rfl (r_refuse G rd S M Pi g false false) Pi.ob rfl rfl (Nat.le_of_ble_eq_true rfl) (by decide) (by decide) (by decide) (by decide) (fun u M1 hq => ?_)
    obtain ⟨rfl, S1, P1, F1, A1⟩ := hq
    rw [Bool.or_false, Bool.or_false, hg]
    rw [hg] at A1
    exact cont S1 M1 P1 F1 A1
  cases hb : (pB (okN n)) with
  | true =>
    rw [hb] at fin
    refine g_if_ne C dX6_many_5 (tgt := 12) (by decide) (fun _ => ?_) (fun q => absurd q (by decide))
    refine g_iconst C dX6_many_12 (v := nI 0) rfl ?_
    exact fin false rfl
  | false =>
    rw [hb] at fin
    refine g_if_ne C dX6_many_5 (tgt := 12) (by decide) (fun q => absurd (by decide) q) (fun _ => ?_)
    refine g_iconst C dX6_many_8 (v := nI 1) rfl ?_
    refine g_goto C dX6_many_9 (tgt := 13) (by decide) ?_
    exact fin true rfl

set_option maxHeartbeats 4000000 in
set_option maxRecDepth 100000 in
theorem r_many_no (G : fm_G) (rd : Nat → Nat) (S : Rs) (M : fm_M) (Pi : RPic G rd S M) (a : Ab) (ha : AbOk a) (h : RR a S) (n : Int32) (hn : ¬ okN n) : fm_Ct G yX6_many cX6_many 2 (some .int) 5 123 0 0 [.ref (rd 0), .int n] M (fun v M1 => ∃ S', v = some (.int (nI 0)) ∧ RPic G rd S' M1 ∧ RFr rd M M1 ∧ RR a S' ∧ S'.2 0 = nI 1) := by
  refine fm_head (by decide) (Nat.le_of_ble_eq_true rfl) rfl (fun X C N0 rt => ?_)
  refine l_rmany C Pi (fun S1 M1 P1 F1 A1 => ?_)
  rw [pB_f hn] at A1 ⊢
  refine g_if_eq C dX6_many_18 (tgt := 23) (by decide) (fun q => absurd q (by decide)) (fun _ => ?_)
  refine g_iconst C dX6_many_21 (v := nI 0) rfl ?_
  exact rt (some (.int _)) M1 _ _ _ _ (fm_retI dX6_many_22) ⟨S1, rfl, P1, F1, A1.RR0 h, A1.at⟩ (Nat.le_refl _) (Nat.le_refl _)

set_option maxHeartbeats 4000000 in
set_option maxRecDepth 100000 in
theorem r_many (G : fm_G) (rd : Nat → Nat) (S : Rs) (M : fm_M) (Pi : RPic G rd S M) (a : Ab) (ha : AbOk a) (h : RR a S) (n : Nat) (hn : n < 5) : fm_Ct G yX6_many cX6_many 2 (some .int) 5 123 0 0 [.ref (rd 0), .int (nI n)] M (fun v M1 => ∃ S', v = some (.int (nI (mny (gO a) n 512))) ∧ RPic G rd S' M1 ∧ RFr rd M M1 ∧ RR a S' ∧ S'.2 0 = nI 0) := by
  refine fm_head (by decide) (Nat.le_of_ble_eq_true rfl) rfl (fun X C N0 rt => ?_)
  refine l_rmany C Pi (fun S1 M1 P1 F1 A1 => ?_)
  rw [pB_t (show okN (nI n) from ⟨n, hn, rfl⟩)] at A1 ⊢
  refine g_if_eq C dX6_many_18 (tgt := 23) (by decide) (fun _ => ?_) (fun q => absurd (by decide) q)
  refine g_aload_n C dX6_many_23 rfl ?_
  refine g_callV (ci := 6) C dX6_many_24 cw_X6_95 rfl (r_reckon G rd S1 M1 P1 a ha (A1.RR0 h)) P1.ob rfl rfl (Nat.le_of_ble_eq_true rfl) (by decide) (by decide) (by decide) (by decide) (fun u M2 hq => ?_)
  obtain ⟨rfl, S2, P2, F2, R2, w2, t2⟩ := hq
  have t2' : S2.2 0 = nI 0 := by rw [t2, A1.at]; rfl
  show GW G X 2 M2 0 0 27 _ []
  refine g_aload_n C dX6_many_27 rfl ?_
  refine g_iload_n C dX6_many_28 rfl ?_
  refine g_callV (ci := 6) C dX6_many_29 cw_X6_98 rfl (r_manyOf G rd S2 M2 P2 a w2 n hn) P2.ob rfl rfl (Nat.le_of_ble_eq_true rfl) (by decide) (by decide) (by decide) (by decide) (fun u M3 hq => ?_)
  obtain ⟨rfl, rfl⟩ := hq
  exact rt (some (.int _)) M3 _ _ _ _ (fm_retI dX6_many_32) ⟨S2, rfl, P2, F1.tr F2, R2, t2'⟩ (Nat.le_refl _) (Nat.le_refl _)

