/-! End's methods -/
theorem lenA_r {e : Nat} (h : e < 50) : lenA (20 + e) = 512 := by
  unfold lenA
  rw [if_neg (by omega), if_neg (by omega), if_pos (by omega)]
/-- an end has taken the counts nw -/
def tkI (S S' : Cs) (e : Nat) (nw : Nat → Bool) (rd : Int32) : Prop := eqX S S' [15 + 2 * e, 16 + 2 * e] [20 + e] ∧ ∀ c, c < 512 →
  bq (S'.1 (16 + 2 * e)) c = (nw c && !(bq (S.1 (15 + 2 * e)) c)) ∧ bq (S'.1 (15 + 2 * e)) c = (bq (S.1 (15 + 2 * e)) c || nw c) ∧ S'.2.1 (20 + e) c = (if (nw c && !(bq (S.1 (15 + 2 * e)) c)) = true then rd else S.2.1 (20 + e) c)
/-- the rounds up to count i -/
def rdI (S S' : Cs) (e i : Nat) (rd : Int32) : Prop := eqX S S' [] [20 + e] ∧ ∀ c, c < 512 → S'.2.1 (20 + e) c = (if (decide (c < i) && bq (S.1 (16 + 2 * e)) c) = true then rd else S.2.1 (20 + e) c)
theorem rdI_0 (S : Cs) (e : Nat) (rd : Int32) : rdI S S e 0 rd := ⟨eqX.rf, fun c _ => by simp⟩
theorem rdI_skip {S S' : Cs} {e i : Nat} {rd : Int32} (h : rdI S S' e i rd) (h0 : bq (S.1 (16 + 2 * e)) i = false) : rdI S S' e (i + 1) rd := by
  refine ⟨h.1, fun c hc => ?_⟩
  rw [h.2 c hc]
  have e9 : (decide (c < i + 1) && bq (S.1 (16 + 2 * e)) c) = (decide (c < i) && bq (S.1 (16 + 2 * e)) c) := by
    by_cases h1 : c = i
    · rw [h1, h0, Bool.and_false, Bool.and_false]
    · by_cases h2 : c < i
      · rw [decide_eq_true h2, decide_eq_true (show c < i + 1 by omega)]
      · rw [decide_eq_false h2, decide_eq_false (show ¬ c < i + 1 by omega)]
  rw [e9]
theorem rdI_hit {S S' : Cs} {e i : Nat} {rd : Int32} (h : rdI S S' e i rd) (h0 : bq (S.1 (16 + 2 * e)) i = true) : rdI S (S'.1, va_up S'.2.1 (20 + e) (upd (S'.2.1 (20 + e)) i rd), S'.2.2) e (i + 1) rd := by
  refine ⟨h.1.ar (j := 20 + e) (by simp) _, fun c hc => ?_⟩
  show va_up S'.2.1 (20 + e) _ (20 + e) c = _
  rw [va_up_self]
  by_cases h1 : c = i
  · rw [h1, pk_us, h0, decide_eq_true (Nat.lt_succ_self i)]; rfl
  · rw [pk_un h1, h.2 c hc]
    by_cases h2 : c < i
    · rw [decide_eq_true h2, decide_eq_true (show c < i + 1 by omega)]
    · rw [decide_eq_false h2, decide_eq_false (show ¬ c < i + 1 by omega)]

set_option maxHeartbeats 4000000 in
set_option maxRecDepth 100000 in
theorem l_take {G : fm_G} {ad : Nat → Nat → Nat} {nr : Nat} {S : Cs} {M : fm_M} {X : fm_X} {fr lo mc ms : Nat} {e : Nat} {rd : Int32} (C : GC G X RX1 cX1_takeNewest 3 (fr + 1) (lo + 21) mc ms) (he : e < 5 * nr) (kk : ∀ S' M1 ls, Pic G ad nr S' M1 → Fr ad nr M M1 → rdI S S' e 512 rd → GW G X 3 M1 0 0 66 ls []) : ∀ d i S1 M1, i + d = 512 → Pic G ad nr S1 M1 → Fr ad nr M M1 → rdI S S1 e i rd → GW G X 3 M1 0 0 35 [(0, .ref (ad 6 e)), (1, .int rd), (2, .int (nI i))] [] := by
  have lN : 16 + 2 * e < 15 + 10 * nr := by omega
  intro d
  induction d with
  | zero =>
    intro i S1 M1 hi P1 F1 I1
    have e : i = 512 := by omega
    subst e
    refine g_iload_n C dX1_takeNewest_35 rfl ?_
    refine g_sipush C dX1_takeNewest_36 (v := nI 512) rfl ?_
    refine g_icmp_geN C dX1_takeNewest_39 (tgt := 66) (by decide) (by decide) (by decide) (fun hb => ?_) (fun hb => absurd hb (by omega))
    exact kk S1 M1 _ P1 F1 I1
  | succ d ih =>
    intro i S1 M1 hi P1 F1 I1
    have h10 := P1.1
    have lR : liv nr 2 (20 + e) := Or.inr (Or.inr (Or.inl ⟨by omega, by omega⟩))
    have ek : S1.1 (16 + 2 * e) = S.1 (16 + 2 * e) := I1.1.1 _ (by simp)
    refine g_iload_n C dX1_takeNewest_35 rfl ?_
    refine g_sipush C dX1_takeNewest_36 (v := nI 512) rfl ?_
    refine g_icmp_geN C dX1_takeNewest_39 (tgt := 66) (by decide) (by omega) (by decide) (fun hb => absurd hb (by omega)) (fun hb => ?_)
    refine g_aload_n C dX1_takeNewest_42 rfl ?_
    refine g_getf C fl_X1_18 dX1_takeNewest_43 (P1.kend he) rfl ?_
    refine g_iload_n C dX1_takeNewest_46 rfl ?_
    refine g_callV (ci := 0) C dX1_takeNewest_47 cw_X1_63 rfl (c_holds G _ _ M1 _ (P1.kset lN) (P1.kpl lN) i hb) (P1.kset lN) rfl rfl (Nat.le_of_ble_eq_true rfl) (by omega) (by omega) (by omega) (by omega) (fun v M2 hq => ?_)
    obtain ⟨rfl, rfl⟩ := hq
    show GW G X 3 _ 0 0 50 _ [.int (bI (bq (S1.1 (16 + 2 * e)) i))]
    rw [ek]
    refine g_if_eq C dX1_takeNewest_50 (tgt := 60) (by decide) (fun h0 => ?_) (fun h0 => ?_)
    · skip
      refine g_inc1 C dX1_takeNewest_60 rfl (by decide) ?_
      refine g_goto C dX1_takeNewest_63 (tgt := 35) (by decide) ?_
      exact ih (i + 1) S1 _ (by omega) P1 F1 (rdI_skip I1 (bI_0.mp h0))
    · skip
      refine g_aload_n C dX1_takeNewest_53 rfl ?_
      refine g_getf C fl_X1_21 dX1_takeNewest_54 (P1.kend he) rfl ?_
      refine g_iload_n C dX1_takeNewest_57 rfl ?_
      refine g_iload_n C dX1_takeNewest_58 rfl ?_
      refine g_iastN C dX1_takeNewest_59 (P1.kar lR (lenA_r (by omega))) hb (by decide) ?_
      refine g_inc1 C dX1_takeNewest_60 rfl (by decide) ?_
      refine g_goto C dX1_takeNewest_63 (tgt := 35) (by decide) ?_
      exact ih (i + 1) _ _ (by omega) (P1.ar lR _ (lenA_r (by omega))) (F1.st (t := 2) lR) (rdI_hit I1 (bI_n0.mp h0))

set_option maxHeartbeats 4000000 in
set_option maxRecDepth 100000 in
theorem c_take (G : fm_G) (ad : Nat → Nat → Nat) (nr : Nat) (S : Cs) (M : fm_M) (Pi : Pic G ad nr S M) (e : Nat) (rd : Int32) (he : e < 5 * nr) : fm_Ct G yX1_takeNewest cX1_takeNewest 3 none 1 23 0 0 [.ref (ad 6 e), .int rd] M (fun v M1 => v = none ∧ ∃ S', Pic G ad nr S' M1 ∧ Fr ad nr M M1 ∧ tkI S S' e (bq (S.1 (16 + 2 * e))) rd) := by
  have lA : 15 + 2 * e < 15 + 10 * nr := by omega
  have lN : 16 + 2 * e < 15 + 10 * nr := by omega
  refine fm_head (by decide) (Nat.le_of_ble_eq_true rfl) rfl (fun X C N0 rt => ?_)
  refine g_aload_n C dX1_takeNewest_0 rfl ?_
  refine g_getf C fl_X1_18 dX1_takeNewest_1 (Pi.kend he) rfl ?_
  refine g_aload_n C dX1_takeNewest_4 rfl ?_
  refine g_getf C fl_X1_12 dX1_takeNewest_5 (Pi.kend he) rfl ?_
  refine g_callV (ci := 0) C dX1_takeNewest_8 cw_X1_52 rfl (c_removeAll G _ _ M _ (Pi.kset lN) (Pi.kpl lN) _ _ _ (Pi.kset lA) (Pi.kpl lA) (Pi.npl lA lN (by omega))) (Pi.kset lN) rfl rfl (Nat.le_of_ble_eq_true rfl) (by decide) (by decide) (by decide) (by decide) (fun v M1 hq => ?_)
  obtain ⟨rfl, rfl⟩ := hq
  have P1 := Pi.pl lN (zipf anL 8 (S.1 (16 + 2 * e)) (S.1 (15 + 2 * e)))
  have F1 := (Fr.rf (ad := ad) (nr := nr) (M := M)).st (t := 1) (k := 16 + 2 * e) (e := fm_L G 8 (zipf anL 8 (S.1 (16 + 2 * e)) (S.1 (15 + 2 * e)))) lN
  have E1 : eqX S _ [15 + 2 * e, 16 + 2 * e] [20 + e] := eqX.rf.pl (k := 16 + 2 * e) (by simp) (zipf anL 8 (S.1 (16 + 2 * e)) (S.1 (15 + 2 * e)))
  have q1 : ∀ c, c < 512 → bq (va_up S.1 (16 + 2 * e) (zipf anL 8 (S.1 (16 + 2 * e)) (S.1 (15 + 2 * e))) (16 + 2 * e)) c = (bq (S.1 (16 + 2 * e)) c && !(bq (S.1 (15 + 2 * e)) c)) := fun c hc => by rw [va_up_self, bq_an _ _ c hc]
  have q2 : va_up S.1 (16 + 2 * e) (zipf anL 8 (S.1 (16 + 2 * e)) (S.1 (15 + 2 * e))) (15 + 2 * e) = S.1 (15 + 2 * e) := va_up_ne _ _ (by omega)
  generalize hS1 : ((va_up S.1 (16 + 2 * e) (zipf anL 8 (S.1 (16 + 2 * e)) (S.1 (15 + 2 * e))), S.2) : Cs) = S1 at P1 E1
  have q1 : ∀ c, c < 512 → bq (S1.1 (16 + 2 * e)) c = (bq (S.1 (16 + 2 * e)) c && !(bq (S.1 (15 + 2 * e)) c)) := by rw [← hS1]; exact q1
  have q2 : S1.1 (15 + 2 * e) = S.1 (15 + 2 * e) := by rw [← hS1]; exact q2
  have q3 : S1.2 = S.2 := by rw [← hS1]
  clear hS1
  generalize fm_set M (ad 1 (16 + 2 * e)) (fm_L G 8 (zipf anL 8 (S.1 (16 + 2 * e)) (S.1 (15 + 2 * e)))) = M1 at P1 F1 ⊢
  show GW G X 3 M1 0 0 11 _ []
  refine g_aload_n C dX1_takeNewest_11 rfl ?_
  refine g_getf C fl_X1_18 dX1_takeNewest_12 (P1.kend he) rfl ?_
  refine g_callV (ci := 0) C dX1_takeNewest_15 cw_X1_56 rfl (c_isEmpty G _ _ M1 _ (P1.kset lN) (P1.kpl lN)) (P1.kset lN) rfl rfl (Nat.le_of_ble_eq_true rfl) (by decide) (by decide) (by decide) (by decide) (fun v M2 hq => ?_)
  obtain ⟨rfl, rfl⟩ := hq
  show GW G X 3 _ 0 0 18 _ [.int (bI (empq (S1.1 (16 + 2 * e))))]
  refine g_if_eq C dX1_takeNewest_18 (tgt := 22) (by decide) (fun h0 => ?_) (fun h0 => ?_)
  · skip
    refine g_aload_n C dX1_takeNewest_22 rfl ?_
    refine g_getf C fl_X1_12 dX1_takeNewest_23 (P1.kend he) rfl ?_
    refine g_aload_n C dX1_takeNewest_26 rfl ?_
    refine g_getf C fl_X1_18 dX1_takeNewest_27 (P1.kend he) rfl ?_
    refine g_callV (ci := 0) C dX1_takeNewest_30 cw_X1_60 rfl (c_addAll G _ _ _ _ (P1.kset lA) (P1.kpl lA) _ _ _ (P1.kset lN) (P1.kpl lN) (P1.npl lN lA (by omega))) (P1.kset lA) rfl rfl (Nat.le_of_ble_eq_true rfl) (by decide) (by decide) (by decide) (by decide) (fun v M3 hq => ?_)
    obtain ⟨rfl, rfl⟩ := hq
    have P2 := P1.pl lA (zipf orL 8 (S1.1 (15 + 2 * e)) (S1.1 (16 + 2 * e)))
    have F2 := F1.st (t := 1) (k := 15 + 2 * e) (e := fm_L G 8 (zipf orL 8 (S1.1 (15 + 2 * e)) (S1.1 (16 + 2 * e)))) lA
    show GW G X 3 _ 0 0 33 _ []
    refine g_iconst C dX1_takeNewest_33 (v := nI 0) rfl ?_
    refine g_istore_n C dX1_takeNewest_34 (by decide) ?_
    refine l_take (fr := 0) (lo := 2) C he (fun S' M4 ls P4 F4 I4 => ?_) 512 0 _ _ (by decide) P2 (Fr.rf) (rdI_0 _ e rd)
    refine rt none M4 _ _ _ ls (fm_retV dX1_takeNewest_66) ⟨rfl, S', P4, F2.tr F4, (E1.pl (k := 15 + 2 * e) (by simp) _).tr (I4.1.wk (by simp) (by simp)), fun c hc => ?_⟩ (Nat.le_refl _) (Nat.le_refl _)
    have e1 : S'.1 (16 + 2 * e) = S1.1 (16 + 2 * e) := (I4.1.1 _ (by simp)).trans (va_up_ne _ _ (by omega))
    have e2 : S'.1 (15 + 2 * e) = zipf orL 8 (S1.1 (15 + 2 * e)) (S1.1 (16 + 2 * e)) := (I4.1.1 _ (by simp)).trans (va_up_self _ _ _)
    have e3 := I4.2 c hc
    have e4 : bq (va_up S1.1 (15 + 2 * e) (zipf orL 8 (S1.1 (15 + 2 * e)) (S1.1 (16 + 2 * e))) (16 + 2 * e)) c = bq (S1.1 (16 + 2 * e)) c := by rw [va_up_ne _ _ (by omega)]
    refine ⟨by rw [e1]; exact q1 c hc, ?_, ?_⟩
    · rw [e2, bq_or _ _ c hc, q1 c hc, q2]
      cases bq (S.1 (15 + 2 * e)) c <;> cases bq (S.1 (16 + 2 * e)) c <;> rfl
    · rw [e3]
      show (if (decide (c < 512) && bq (va_up S1.1 (15 + 2 * e) (zipf orL 8 (S1.1 (15 + 2 * e)) (S1.1 (16 + 2 * e))) (16 + 2 * e)) c) = true then rd else S1.2.1 (20 + e) c) = _
      rw [e4, q1 c hc, decide_eq_true hc, Bool.true_and, q3]
  · refine rt none _ _ _ _ _ (fm_retV dX1_takeNewest_21) ⟨rfl, S1, P1, F1, E1, fun c hc => ?_⟩ (Nat.le_refl _) (Nat.le_refl _)
    have e0 := (empq_iff _).mp (bI_n0.mp h0) c hc
    have e1 := q1 c hc
    rw [e0] at e1
    refine ⟨q1 c hc, ?_, ?_⟩
    · rw [q2]
      cases h8 : bq (S.1 (15 + 2 * e)) c
      · rw [h8] at e1
        cases h9 : bq (S.1 (16 + 2 * e)) c
        · rfl
        · rw [h9] at e1; cases e1
      · rfl
    · rw [← e1, q3, if_neg (by decide)]

set_option maxHeartbeats 4000000 in
set_option maxRecDepth 100000 in
theorem c_growLetters (G : fm_G) (ad : Nat → Nat → Nat) (nr : Nat) (S : Cs) (M : fm_M) (Pi : Pic G ad nr S M) (e lc : Nat) (rd : Int32) (he : e < 5 * nr) (hlc : lc < 512) : fm_Ct G yX1_growLetters cX1_growLetters 3 none 2 45 0 0 [.ref (ad 6 e), .int (nI lc), .int rd] M (fun v M1 => v = none ∧ ∃ S', Pic G ad nr S' M1 ∧ Fr ad nr M M1 ∧ tkI S S' e (fun c => decide (c = lc)) rd) := by
  have lN : 16 + 2 * e < 15 + 10 * nr := by omega
  refine fm_head (by decide) (Nat.le_of_ble_eq_true rfl) rfl (fun X C N0 rt => ?_)
  refine g_aload_n C dX1_growLetters_0 rfl ?_
  refine g_getf C fl_X1_18 dX1_growLetters_1 (Pi.kend he) rfl ?_
  refine g_callV (ci := 0) C dX1_growLetters_4 cw_X1_25 rfl (c_empty G _ _ M _ (Pi.kset lN) (Pi.kpl lN)) (Pi.kset lN) rfl rfl (Nat.le_of_ble_eq_true rfl) (by decide) (by decide) (by decide) (by decide) (fun v M1 hq => ?_)
  obtain ⟨rfl, rfl⟩ := hq
  have P1 := Pi.pl lN (fillf 8 0 (S.1 (16 + 2 * e)))
  have F1 := (Fr.rf (ad := ad) (nr := nr) (M := M)).st (t := 1) (k := 16 + 2 * e) (e := fm_L G 8 (fillf 8 0 (S.1 (16 + 2 * e)))) lN
  show GW G X 3 _ 0 0 7 _ []
  refine g_aload_n C dX1_growLetters_7 rfl ?_
  refine g_getf C fl_X1_18 dX1_growLetters_8 (P1.kend he) rfl ?_
  refine g_iload_n C dX1_growLetters_11 rfl ?_
  refine g_callV (ci := 0) C dX1_growLetters_12 cw_X1_35 rfl (c_add G _ _ _ _ (P1.kset lN) (P1.kpl lN) lc hlc) (P1.kset lN) rfl rfl (Nat.le_of_ble_eq_true rfl) (by decide) (by decide) (by decide) (by decide) (fun v M2 hq => ?_)
  obtain ⟨rfl, rfl⟩ := hq
  have P2 := P1.pl lN (addf (va_up S.1 (16 + 2 * e) (fillf 8 0 (S.1 (16 + 2 * e))) (16 + 2 * e)) lc)
  have F2 := F1.st (t := 1) (k := 16 + 2 * e) (e := fm_L G 8 (addf (va_up S.1 (16 + 2 * e) (fillf 8 0 (S.1 (16 + 2 * e))) (16 + 2 * e)) lc)) lN
  have E2 : eqX S _ [15 + 2 * e, 16 + 2 * e] [20 + e] := (eqX.rf.pl (k := 16 + 2 * e) (by simp) (fillf 8 0 (S.1 (16 + 2 * e)))).pl (k := 16 + 2 * e) (by simp) (addf (va_up S.1 (16 + 2 * e) (fillf 8 0 (S.1 (16 + 2 * e))) (16 + 2 * e)) lc)
  have e1 : ∀ c, c < 512 → bq (va_up (va_up S.1 (16 + 2 * e) (fillf 8 0 (S.1 (16 + 2 * e)))) (16 + 2 * e) (addf (va_up S.1 (16 + 2 * e) (fillf 8 0 (S.1 (16 + 2 * e))) (16 + 2 * e)) lc) (16 + 2 * e)) c = decide (c = lc) := fun c hc => by rw [va_up_self, bq_addf, va_up_self, bq_fill0 _ c hc, Bool.false_or]
  have e2 : va_up (va_up S.1 (16 + 2 * e) (fillf 8 0 (S.1 (16 + 2 * e)))) (16 + 2 * e) (addf (va_up S.1 (16 + 2 * e) (fillf 8 0 (S.1 (16 + 2 * e))) (16 + 2 * e)) lc) (15 + 2 * e) = S.1 (15 + 2 * e) := by rw [va_up_ne _ _ (by omega), va_up_ne _ _ (by omega)]
  generalize hS2 : ((va_up (va_up S.1 (16 + 2 * e) (fillf 8 0 (S.1 (16 + 2 * e)))) (16 + 2 * e) (addf (va_up S.1 (16 + 2 * e) (fillf 8 0 (S.1 (16 + 2 * e))) (16 + 2 * e)) lc), S.2) : Cs) = S2 at P2 E2
  have e1 : ∀ c, c < 512 → bq (S2.1 (16 + 2 * e)) c = decide (c = lc) := by rw [← hS2]; exact e1
  have e2 : S2.1 (15 + 2 * e) = S.1 (15 + 2 * e) := by rw [← hS2]; exact e2
  have e3 : S2.2 = S.2 := by rw [← hS2]
  clear hS2
  show GW G X 3 _ 0 0 15 _ []
  refine g_aload_n C dX1_growLetters_15 rfl ?_
  refine g_iload_n C dX1_growLetters_16 rfl ?_
  refine g_callV (ci := 1) C dX1_growLetters_17 cw_X1_39 rfl (c_take G ad nr _ _ P2 e rd he) (P2.kend he) rfl rfl (Nat.le_of_ble_eq_true rfl) (by decide) (by decide) (by decide) (by decide) (fun v M3 hq => ?_)
  obtain ⟨rfl, S3, P3, F3, T3⟩ := hq
  refine rt none M3 _ _ _ _ (fm_retV dX1_growLetters_20) ⟨rfl, S3, P3, F2.tr F3, E2.tr T3.1, fun c hc => ?_⟩ (Nat.le_refl _) (Nat.le_refl _)
  obtain ⟨t1, t2, t3⟩ := T3.2 c hc
  rw [e1 c hc, e2] at t1 t2 t3
  rw [e3] at t3
  exact ⟨t1, t2, t3⟩

set_option maxHeartbeats 4000000 in
set_option maxRecDepth 100000 in
theorem c_End_grow (G : fm_G) (ad : Nat → Nat → Nat) (nr : Nat) (S : Cs) (M : fm_M) (Pi : Pic G ad nr S M) (e n e2 : Nat) (rd : Int32) (he : e < 5 * nr) (hn : n < 5) (he2 : e2 < 5 * nr) (hee : e2 ≠ e) : fm_Ct G yX1_grow cX1_grow 4 none 2 52 0 0 [.ref (ad 6 e), .ref (ad 3 n), .ref (ad 6 e2), .int rd] M (fun v M1 => v = none ∧ ∃ S', Pic G ad nr S' M1 ∧ Fr ad nr M M1 ∧ ∃ nw : Nat → Bool, (∀ c, c < 512 → (nw c = true ↔ (sumq (bq (S.1 (3 * n + 1))) (bq (S.1 (15 + 2 * e2))) c ∨ sumq (bq (S.1 (16 + 2 * e2))) (bq (S.1 (3 * n))) c))) ∧ tkI S S' e nw rd) := by
  have lN : 16 + 2 * e < 15 + 10 * nr := by omega
  have l0 : 3 * n < 15 + 10 * nr := by omega
  have l1 : 3 * n + 1 < 15 + 10 * nr := by omega
  have lA2 : 15 + 2 * e2 < 15 + 10 * nr := by omega
  have lN2 : 16 + 2 * e2 < 15 + 10 * nr := by omega
  refine fm_head (by decide) (Nat.le_of_ble_eq_true rfl) rfl (fun X C N0 rt => ?_)
  refine g_aload_n C dX1_grow_0 rfl ?_
  refine g_getf C fl_X1_18 dX1_grow_1 (Pi.kend he) rfl ?_
  refine g_callV (ci := 0) C dX1_grow_4 cw_X1_25 rfl (c_empty G _ _ M _ (Pi.kset lN) (Pi.kpl lN)) (Pi.kset lN) rfl rfl (Nat.le_of_ble_eq_true rfl) (by decide) (by decide) (by decide) (by decide) (fun v M1 hq => ?_)
  obtain ⟨rfl, rfl⟩ := hq
  have P1 := Pi.pl lN (fillf 8 0 (S.1 (16 + 2 * e)))
  have F1 := (Fr.rf (ad := ad) (nr := nr) (M := M)).st (t := 1) (k := 16 + 2 * e) (e := fm_L G 8 (fillf 8 0 (S.1 (16 + 2 * e)))) lN
  have E1 : eqX S _ [16 + 2 * e] [] := eqX.rf.pl (k := 16 + 2 * e) (by simp) (fillf 8 0 (S.1 (16 + 2 * e)))
  have z1 : ∀ c, c < 512 → bq (va_up S.1 (16 + 2 * e) (fillf 8 0 (S.1 (16 + 2 * e))) (16 + 2 * e)) c = false := fun c hc => by rw [va_up_self, bq_fill0 _ c hc]
  generalize hS1 : ((va_up S.1 (16 + 2 * e) (fillf 8 0 (S.1 (16 + 2 * e))), S.2) : Cs) = S1 at P1 E1
  have z1 : ∀ c, c < 512 → bq (S1.1 (16 + 2 * e)) c = false := by rw [← hS1]; exact z1
  clear hS1
  generalize fm_set M (ad 1 (16 + 2 * e)) (fm_L G 8 (fillf 8 0 (S.1 (16 + 2 * e)))) = M1 at P1 F1 ⊢
  show GW G X 4 M1 0 0 7 _ []
  refine g_aload_n C dX1_grow_7 rfl ?_
  refine g_getf C fl_X1_18 dX1_grow_8 (P1.kend he) rfl ?_
  refine g_aload_n C dX1_grow_11 rfl ?_
  refine g_getf C fl_X1_42 dX1_grow_12 (P1.knt hn) rfl ?_
  refine g_aload_n C dX1_grow_15 rfl ?_
  refine g_getf C fl_X1_12 dX1_grow_16 (P1.kend he2) rfl ?_
  refine g_callV (ci := 0) C dX1_grow_19 cw_X1_45 rfl (c_addSums G _ _ _ _ _ _ M1 _ _ _ (P1.kset lN) (P1.kpl lN) (P1.kset l1) (P1.kpl l1) (P1.kset lA2) (P1.kpl lA2) (P1.npl l1 lN (by omega)) (P1.npl lA2 lN (by omega))) (P1.kset lN) rfl rfl (Nat.le_of_ble_eq_true rfl) (by decide) (by decide) (by decide) (by decide) (fun v M2 hq => ?_)
  obtain ⟨rfl, g2, rfl, hg2⟩ := hq
  have P2 := P1.pl lN g2
  have F2 := F1.st (t := 1) (k := 16 + 2 * e) (e := fm_L G 8 g2) lN
  have E2 : eqX S _ [16 + 2 * e] [] := E1.pl (k := 16 + 2 * e) (by simp) g2
  have z2 : va_up S1.1 (16 + 2 * e) g2 (16 + 2 * e) = g2 := va_up_self _ _ _
  have hx : S1.1 (3 * n + 1) = S.1 (3 * n + 1) := E1.1 _ (by simp; omega)
  have hy : S1.1 (15 + 2 * e2) = S.1 (15 + 2 * e2) := E1.1 _ (by simp; omega)
  rw [hx, hy] at hg2
  generalize hS2 : ((va_up S1.1 (16 + 2 * e) g2, S1.2) : Cs) = S2 at P2 E2
  have z2 : S2.1 (16 + 2 * e) = g2 := by rw [← hS2]; exact z2
  clear hS2
  generalize fm_set M1 (ad 1 (16 + 2 * e)) (fm_L G 8 g2) = M2 at P2 F2 ⊢
  show GW G X 4 M2 0 0 22 _ []
  refine g_aload_n C dX1_grow_22 rfl ?_
  refine g_getf C fl_X1_18 dX1_grow_23 (P2.kend he) rfl ?_
  refine g_aload_n C dX1_grow_26 rfl ?_
  refine g_getf C fl_X1_18 dX1_grow_27 (P2.kend he2) rfl ?_
  refine g_aload_n C dX1_grow_30 rfl ?_
  refine g_getf C fl_X1_49 dX1_grow_31 (P2.knt hn) rfl ?_
  refine g_callV (ci := 0) C dX1_grow_34 cw_X1_45 rfl (c_addSums G _ _ _ _ _ _ M2 _ _ _ (P2.kset lN) (P2.kpl lN) (P2.kset lN2) (P2.kpl lN2) (P2.kset l0) (P2.kpl l0) (P2.npl lN2 lN (by omega)) (P2.npl l0 lN (by omega))) (P2.kset lN) rfl rfl (Nat.le_of_ble_eq_true rfl) (by decide) (by decide) (by decide) (by decide) (fun v M3 hq => ?_)
  obtain ⟨rfl, g3, rfl, hg3⟩ := hq
  have P3 := P2.pl lN g3
  have F3 := F2.st (t := 1) (k := 16 + 2 * e) (e := fm_L G 8 g3) lN
  have E3 : eqX S _ [16 + 2 * e] [] := E2.pl (k := 16 + 2 * e) (by simp) g3
  have z3 : va_up S2.1 (16 + 2 * e) g3 (16 + 2 * e) = g3 := va_up_self _ _ _
  have hx : S2.1 (16 + 2 * e2) = S.1 (16 + 2 * e2) := E2.1 _ (by simp; omega)
  have hy : S2.1 (3 * n) = S.1 (3 * n) := E2.1 _ (by simp; omega)
  rw [hx, hy, z2] at hg3
  generalize hS3 : ((va_up S2.1 (16 + 2 * e) g3, S2.2) : Cs) = S3 at P3 E3
  have z3 : S3.1 (16 + 2 * e) = g3 := by rw [← hS3]; exact z3
  clear hS3
  generalize fm_set M2 (ad 1 (16 + 2 * e)) (fm_L G 8 g3) = M3 at P3 F3 ⊢
  show GW G X 4 M3 0 0 37 _ []
  refine g_aload_n C dX1_grow_37 rfl ?_
  refine g_iload_n C dX1_grow_38 rfl ?_
  refine g_callV (ci := 1) C dX1_grow_39 cw_X1_39 rfl (c_take G ad nr _ _ P3 e rd he) (P3.kend he) rfl rfl (Nat.le_of_ble_eq_true rfl) (by decide) (by decide) (by decide) (by decide) (fun v M4 hq => ?_)
  obtain ⟨rfl, S4, P4, F4, T4⟩ := hq
  have eA : S3.1 (15 + 2 * e) = S.1 (15 + 2 * e) := E3.1 _ (by simp)
  have eR : S3.2.1 (20 + e) = S.2.1 (20 + e) := E3.2.1 _ (by simp)
  refine rt none M4 _ _ _ _ (fm_retV dX1_grow_42) ⟨rfl, S4, P4, F3.tr F4, bq g3, fun c hc => ?_, (E3.wk (by simp) (by simp)).tr T4.1, fun c hc => ?_⟩ (Nat.le_refl _) (Nat.le_refl _)
  · rw [hg3 c hc, hg2 c hc, z1 c hc]
    simp
  · have t := T4.2 c hc
    rw [z3, eA, eR] at t
    exact t

set_option maxHeartbeats 4000000 in
set_option maxRecDepth 100000 in
theorem c_End_forget (G : fm_G) (ad : Nat → Nat → Nat) (nr : Nat) (S : Cs) (M : fm_M) (Pi : Pic G ad nr S M) (e : Nat) (he : e < 5 * nr) : fm_Ct G yX1_forget cX1_forget 1 none 2 44 0 0 [.ref (ad 6 e)] M (fun v M1 => v = none ∧ ∃ S', Pic G ad nr S' M1 ∧ Fr ad nr M M1 ∧ eqX S S' [15 + 2 * e, 16 + 2 * e] [20 + e] ∧ ∀ c, c < 512 → bq (S'.1 (15 + 2 * e)) c = false ∧ bq (S'.1 (16 + 2 * e)) c = false ∧ S'.2.1 (20 + e) c = NEV) := by
  have h10 := Pi.1
  have lA : 15 + 2 * e < 15 + 10 * nr := by omega
  have lN : 16 + 2 * e < 15 + 10 * nr := by omega
  have lR : liv nr 2 (20 + e) := Or.inr (Or.inr (Or.inl ⟨by omega, by omega⟩))
  refine fm_head (by decide) (Nat.le_of_ble_eq_true rfl) rfl (fun X C N0 rt => ?_)
  refine g_aload_n C dX1_forget_0 rfl ?_
  refine g_getf C fl_X1_12 dX1_forget_1 (Pi.kend he) rfl ?_
  refine g_callV (ci := 0) C dX1_forget_4 cw_X1_25 rfl (c_empty G _ _ M _ (Pi.kset lA) (Pi.kpl lA)) (Pi.kset lA) rfl rfl (Nat.le_of_ble_eq_true rfl) (by decide) (by decide) (by decide) (by decide) (fun v M1 hq => ?_)
  obtain ⟨rfl, rfl⟩ := hq
  have P1 := Pi.pl lA (fillf 8 0 (S.1 (15 + 2 * e)))
  have F1 := (Fr.rf (ad := ad) (nr := nr) (M := M)).st (t := 1) (k := 15 + 2 * e) (e := fm_L G 8 (fillf 8 0 (S.1 (15 + 2 * e)))) lA
  show GW G X 1 _ 0 0 7 _ []
  refine g_aload_n C dX1_forget_7 rfl ?_
  refine g_getf C fl_X1_18 dX1_forget_8 (P1.kend he) rfl ?_
  refine g_callV (ci := 0) C dX1_forget_11 cw_X1_25 rfl (c_empty G _ _ _ _ (P1.kset lN) (P1.kpl lN)) (P1.kset lN) rfl rfl (Nat.le_of_ble_eq_true rfl) (by decide) (by decide) (by decide) (by decide) (fun v M2 hq => ?_)
  obtain ⟨rfl, rfl⟩ := hq
  have P2 := P1.pl lN (fillf 8 0 (va_up S.1 (15 + 2 * e) (fillf 8 0 (S.1 (15 + 2 * e))) (16 + 2 * e)))
  have F2 := F1.st (t := 1) (k := 16 + 2 * e) (e := fm_L G 8 (fillf 8 0 (va_up S.1 (15 + 2 * e) (fillf 8 0 (S.1 (15 + 2 * e))) (16 + 2 * e)))) lN
  show GW G X 1 _ 0 0 14 _ []
  refine g_aload_n C dX1_forget_14 rfl ?_
  refine g_getf C fl_X1_21 dX1_forget_15 (P2.kend he) rfl ?_
  refine g_ldc C dX1_forget_18 kc_X1_28 ?_
  refine g_callS C dX1_forget_20 cw_X1_29 (c_fillI G (ad 2 (20 + e)) 512 _ _ 1000000 (P2.kar lR (lenA_r (by omega))) (by decide)) rfl rfl (Nat.le_of_ble_eq_true rfl) (by decide) (by decide) (by decide) (by decide) (fun v M4 hq => ?_)
  obtain ⟨rfl, rfl⟩ := hq
  refine rt none _ _ _ _ _ (fm_retV dX1_forget_23) ⟨rfl, _, P2.ar lR _ (lenA_r (by omega)), F2.st (t := 2) lR, ((eqX.rf.pl (k := 15 + 2 * e) (by simp) _).pl (k := 16 + 2 * e) (by simp) _).ar (j := 20 + e) (by simp) _, fun c hc => ⟨?_, ?_, ?_⟩⟩ (Nat.le_refl _) (Nat.le_refl _)
  · show bq (va_up (va_up S.1 (15 + 2 * e) _) (16 + 2 * e) _ (15 + 2 * e)) c = false
    rw [va_up_ne _ _ (by omega), va_up_self]
    exact bq_fill0 _ c hc
  · show bq (va_up (va_up S.1 (15 + 2 * e) _) (16 + 2 * e) _ (16 + 2 * e)) c = false
    rw [va_up_self]
    exact bq_fill0 _ c hc
  · show va_up S.2.1 (20 + e) _ (20 + e) c = NEV
    rw [va_up_self]
    exact fillf_lt hc
