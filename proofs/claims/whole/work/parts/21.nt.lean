/-! what the picture says of each kind of cell; Nonterminal's methods -/
section PICK
variable {G : fm_G} {ad : Nat → Nat → Nat} {nr : Nat} {S : Cs} {M : fm_M}
theorem Pic.kset (P : Pic G ad nr S M) {k : Nat} (hk : k < 15 + 10 * nr) : M (ad 0 k) = some (fm_O 0 [.ref (ad 1 k)]) := P.at (t := 0) hk
theorem Pic.kpl (P : Pic G ad nr S M) {k : Nat} (hk : k < 15 + 10 * nr) : M (ad 1 k) = some (fm_L G 8 (S.1 k)) := P.at (t := 1) hk
theorem Pic.kar (P : Pic G ad nr S M) {k n : Nat} (hk : liv nr 2 k) (hn : lenA k = n) : M (ad 2 k) = some (fm_I G n (S.2.1 k)) := by rw [← hn]; exact P.at (t := 2) hk
theorem Pic.knt (P : Pic G ad nr S M) {k : Nat} (hk : k < 5) : M (ad 3 k) = some (fm_O 2 [.ref (ad 0 (3 * k)), .ref (ad 0 (3 * k + 1)), .ref (ad 0 (3 * k + 2)), .ref (ad 2 k), .ref (ad 2 (5 + k))]) := P.at (t := 3) hk
theorem Pic.kru (P : Pic G ad nr S M) {k : Nat} (hk : k < nr) : M (ad 4 k) = some (fm_O 3 [.int (S.2.2 (10 + k)), .int (S.2.2 (20 + k)), .int (S.2.2 (30 + k)), .int (S.2.2 (40 + k)), .ref (ad 2 (10 + k)), .ref (ad 5 k)]) := P.at (t := 4) hk
theorem Pic.kends (P : Pic G ad nr S M) {k : Nat} (hk : k < nr) : M (ad 5 k) = some (fm_R G 5 5 (fun i => if i < 5 then some (ad 6 (5 * k + i)) else none)) := P.at (t := 5) hk
theorem Pic.kend (P : Pic G ad nr S M) {k : Nat} (hk : k < 5 * nr) : M (ad 6 k) = some (fm_O 1 [.ref (ad 0 (15 + 2 * k)), .ref (ad 0 (16 + 2 * k)), .ref (ad 2 (20 + k))]) := P.at (t := 6) hk
theorem Pic.klc (P : Pic G ad nr S M) : M (ad 7 0) = some (fm_O 5 [.ref (ad 8 0), .ref (ad 9 0), .int (S.2.2 0), .int (S.2.2 1), .ref (ad 2 70), .int (S.2.2 2), .ref (ad 10 0)]) := P.at (t := 7) rfl
theorem Pic.knts (P : Pic G ad nr S M) : M (ad 8 0) = some (fm_R G 3 5 (fun n => if n < 5 then some (ad 3 n) else none)) := P.at (t := 8) rfl
theorem Pic.krus (P : Pic G ad nr S M) : M (ad 9 0) = some (fm_R G 4 10 (fun r => if r < nr then some (ad 4 r) else none)) := P.at (t := 9) rfl
theorem Pic.kwk (P : Pic G ad nr S M) : M (ad 10 0) = some (fm_O 4 [.ref (ad 2 71), .ref (ad 2 72), .int (S.2.2 3), .ref (ad 2 73), .ref (ad 2 74), .int (S.2.2 4), .ref (ad 2 75)]) := P.at (t := 10) rfl
theorem Pic.npl (P : Pic G ad nr S M) {k k' : Nat} (hk : k < 15 + 10 * nr) (hk' : k' < 15 + 10 * nr) (h : k ≠ k') : ad 1 k ≠ ad 1 k' := P.ne (t := 1) (t' := 1) hk hk' (fun z => h z.2)
end PICK
/-- the contents are the same but for sets ks and arrays js -/
def eqX (S S' : Cs) (ks js : List Nat) : Prop := (∀ k, k ∉ ks → S'.1 k = S.1 k) ∧ (∀ j, j ∉ js → S'.2.1 j = S.2.1 j) ∧ S'.2.2 = S.2.2
theorem eqX.rf {S : Cs} {ks js : List Nat} : eqX S S ks js := ⟨fun _ _ => rfl, fun _ _ => rfl, rfl⟩
theorem eqX.pl {S S' : Cs} {ks js : List Nat} (h : eqX S S' ks js) {k : Nat} (hk : k ∈ ks) (g : Nat → Int64) : eqX S (va_up S'.1 k g, S'.2) ks js := ⟨fun k' hk' => (va_up_ne _ _ (fun e => hk' (by rw [e]; exact hk))).trans (h.1 k' hk'), h.2.1, h.2.2⟩
theorem eqX.ar {S S' : Cs} {ks js : List Nat} (h : eqX S S' ks js) {j : Nat} (hj : j ∈ js) (f : Nat → Int32) : eqX S (S'.1, va_up S'.2.1 j f, S'.2.2) ks js := ⟨h.1, fun j' hj' => (va_up_ne _ _ (fun e => hj' (by rw [e]; exact hj))).trans (h.2.1 j' hj'), h.2.2⟩
theorem eqX.tr {S S' S'' : Cs} {ks js : List Nat} (h : eqX S S' ks js) (h2 : eqX S' S'' ks js) : eqX S S'' ks js := ⟨fun k hk => (h2.1 k hk).trans (h.1 k hk), fun j hj => (h2.2.1 j hj).trans (h.2.1 j hj), h2.2.2.trans h.2.2⟩
theorem eqX.wk {S S' : Cs} {ks js ks' js' : List Nat} (h : eqX S S' ks js) (hk : ∀ k ∈ ks, k ∈ ks') (hj : ∀ j ∈ js, j ∈ js') : eqX S S' ks' js' := ⟨fun k z => h.1 k (fun q => z (hk k q)), fun j z => h.2.1 j (fun q => z (hj j q)), h.2.2⟩
abbrev NEV : Int32 := 1000000
theorem lenA_h {n : Nat} (h : n < 10) : lenA n = 512 := if_pos h

set_option maxHeartbeats 4000000 in
set_option maxRecDepth 100000 in
theorem c_endRound (G : fm_G) (ad : Nat → Nat → Nat) (nr : Nat) (S : Cs) (M : fm_M) (Pi : Pic G ad nr S M) (n : Nat) (hn : n < 5) : fm_Ct G yX2_endRound cX2_endRound 1 none 2 51 0 0 [.ref (ad 3 n)] M (fun v M1 => v = none ∧ ∃ S', Pic G ad nr S' M1 ∧ Fr ad nr M M1 ∧ eqX S S' [3 * n, 3 * n + 1, 3 * n + 2] [] ∧ ∀ c, c < 512 → bq (S'.1 (3 * n + 1)) c = bq (S.1 (3 * n + 2)) c ∧ bq (S'.1 (3 * n)) c = (bq (S.1 (3 * n)) c || bq (S.1 (3 * n + 2)) c) ∧ bq (S'.1 (3 * n + 2)) c = false) := by
  have l0 : 3 * n < 15 + 10 * nr := by omega
  have l1 : 3 * n + 1 < 15 + 10 * nr := by omega
  have l2 : 3 * n + 2 < 15 + 10 * nr := by omega
  refine fm_head (by decide) (Nat.le_of_ble_eq_true rfl) rfl (fun X C N0 rt => ?_)
  refine g_aload_n C dX2_endRound_0 rfl ?_
  refine g_getf C fl_X2_18 dX2_endRound_1 (Pi.knt hn) rfl ?_
  refine g_aload_n C dX2_endRound_4 rfl ?_
  refine g_getf C fl_X2_21 dX2_endRound_5 (Pi.knt hn) rfl ?_
  refine g_callV (ci := 0) C dX2_endRound_8 cw_X2_53 rfl (c_become G _ _ M _ (Pi.kset l1) (Pi.kpl l1) _ _ _ (Pi.kset l2) (Pi.kpl l2)) (Pi.kset l1) rfl rfl (Nat.le_of_ble_eq_true rfl) (by decide) (by decide) (by decide) (by decide) (fun v M1 hq => ?_)
  obtain ⟨rfl, rfl⟩ := hq
  have P1 := Pi.pl l1 (va_cpy (S.1 (3 * n + 2)) (S.1 (3 * n + 1)) 0 0 8)
  have F1 : Fr ad nr M (fm_set M (ad 1 (3 * n + 1)) (fm_L G 8 (va_cpy (S.1 (3 * n + 2)) (S.1 (3 * n + 1)) 0 0 8))) := Fr.rf.st (t := 1) l1
  have E1 : eqX S _ [3 * n, 3 * n + 1, 3 * n + 2] [] := eqX.rf.pl (k := 3 * n + 1) (by simp) (va_cpy (S.1 (3 * n + 2)) (S.1 (3 * n + 1)) 0 0 8)
  have q1 : ∀ c, c < 512 → bq ((va_up S.1 (3 * n + 1) (va_cpy (S.1 (3 * n + 2)) (S.1 (3 * n + 1)) 0 0 8)) (3 * n + 1)) c = bq (S.1 (3 * n + 2)) c := fun c hc => by rw [va_up_self, bq_cpy _ _ c hc]
  have q2 : (va_up S.1 (3 * n + 1) (va_cpy (S.1 (3 * n + 2)) (S.1 (3 * n + 1)) 0 0 8)) (3 * n) = S.1 (3 * n) := va_up_ne _ _ (by omega)
  have q3 : (va_up S.1 (3 * n + 1) (va_cpy (S.1 (3 * n + 2)) (S.1 (3 * n + 1)) 0 0 8)) (3 * n + 2) = S.1 (3 * n + 2) := va_up_ne _ _ (by omega)
  generalize hS1 : ((va_up S.1 (3 * n + 1) (va_cpy (S.1 (3 * n + 2)) (S.1 (3 * n + 1)) 0 0 8), S.2) : Cs) = S1 at P1 E1
  have q1 : ∀ c, c < 512 → bq (S1.1 (3 * n + 1)) c = bq (S.1 (3 * n + 2)) c := by rw [← hS1]; exact q1
  have q2 : S1.1 (3 * n) = S.1 (3 * n) := by rw [← hS1]; exact q2
  have q3 : S1.1 (3 * n + 2) = S.1 (3 * n + 2) := by rw [← hS1]; exact q3
  clear hS1
  generalize fm_set M (ad 1 (3 * n + 1)) (fm_L G 8 (va_cpy (S.1 (3 * n + 2)) (S.1 (3 * n + 1)) 0 0 8)) = M1 at P1 F1 ⊢
  show GW G X 1 M1 0 0 11 _ []
  refine g_aload_n C dX2_endRound_11 rfl ?_
  refine g_getf C fl_X2_12 dX2_endRound_12 (P1.knt hn) rfl ?_
  refine g_aload_n C dX2_endRound_15 rfl ?_
  refine g_getf C fl_X2_21 dX2_endRound_16 (P1.knt hn) rfl ?_
  refine g_callV (ci := 0) C dX2_endRound_19 cw_X2_57 rfl (c_addAll G _ _ M1 _ (P1.kset l0) (P1.kpl l0) _ _ _ (P1.kset l2) (P1.kpl l2) (P1.npl l2 l0 (by omega))) (P1.kset l0) rfl rfl (Nat.le_of_ble_eq_true rfl) (by decide) (by decide) (by decide) (by decide) (fun v M2 hq => ?_)
  obtain ⟨rfl, rfl⟩ := hq
  have P2 := P1.pl l0 (zipf orL 8 (S1.1 (3 * n)) (S1.1 (3 * n + 2)))
  have F2 := F1.st (t := 1) (k := 3 * n) (e := fm_L G 8 (zipf orL 8 (S1.1 (3 * n)) (S1.1 (3 * n + 2)))) l0
  show GW G X 1 _ 0 0 22 _ []
  refine g_aload_n C dX2_endRound_22 rfl ?_
  refine g_getf C fl_X2_21 dX2_endRound_23 (P2.knt hn) rfl ?_
  refine g_callV (ci := 0) C dX2_endRound_26 cw_X2_31 rfl (c_empty G _ _ _ _ (P2.kset l2) (P2.kpl l2)) (P2.kset l2) rfl rfl (Nat.le_of_ble_eq_true rfl) (by decide) (by decide) (by decide) (by decide) (fun v M3 hq => ?_)
  obtain ⟨rfl, rfl⟩ := hq
  refine rt none _ _ _ _ _ (fm_retV dX2_endRound_29) ⟨rfl, _, P2.pl l2 _, F2.st (t := 1) l2, (E1.pl (k := 3 * n) (by simp) _).pl (k := 3 * n + 2) (by simp) _, fun c hc => ⟨?_, ?_, ?_⟩⟩ (Nat.le_refl _) (Nat.le_refl _)
  · show bq (va_up (va_up S1.1 (3 * n) _) (3 * n + 2) _ (3 * n + 1)) c = _
    rw [va_up_ne _ _ (by omega), va_up_ne _ _ (by omega)]
    exact q1 c hc
  · show bq (va_up (va_up S1.1 (3 * n) _) (3 * n + 2) _ (3 * n)) c = _
    rw [va_up_ne _ _ (by omega), va_up_self, bq_or _ _ c hc, q2, q3]
  · show bq (va_up (va_up S1.1 (3 * n) _) (3 * n + 2) _ (3 * n + 2)) c = _
    rw [va_up_self]
    exact bq_fill0 _ c hc

set_option maxHeartbeats 4000000 in
set_option maxRecDepth 100000 in
theorem c_NT_forget (G : fm_G) (ad : Nat → Nat → Nat) (nr : Nat) (S : Cs) (M : fm_M) (Pi : Pic G ad nr S M) (n : Nat) (hn : n < 5) : fm_Ct G yX2_forget cX2_forget 1 none 2 44 0 0 [.ref (ad 3 n)] M (fun v M1 => v = none ∧ ∃ S', Pic G ad nr S' M1 ∧ Fr ad nr M M1 ∧ eqX S S' [3 * n, 3 * n + 1, 3 * n + 2] [n] ∧ ∀ c, c < 512 → bq (S'.1 (3 * n)) c = false ∧ bq (S'.1 (3 * n + 1)) c = false ∧ bq (S'.1 (3 * n + 2)) c = false ∧ S'.2.1 n c = NEV) := by
  have l0 : 3 * n < 15 + 10 * nr := by omega
  have l1 : 3 * n + 1 < 15 + 10 * nr := by omega
  have l2 : 3 * n + 2 < 15 + 10 * nr := by omega
  have l3 : liv nr 2 n := Or.inl (by omega)
  refine fm_head (by decide) (Nat.le_of_ble_eq_true rfl) rfl (fun X C N0 rt => ?_)
  refine g_aload_n C dX2_forget_0 rfl ?_
  refine g_getf C fl_X2_12 dX2_forget_1 (Pi.knt hn) rfl ?_
  refine g_callV (ci := 0) C dX2_forget_4 cw_X2_31 rfl (c_empty G _ _ M _ (Pi.kset l0) (Pi.kpl l0)) (Pi.kset l0) rfl rfl (Nat.le_of_ble_eq_true rfl) (by decide) (by decide) (by decide) (by decide) (fun v M1 hq => ?_)
  obtain ⟨rfl, rfl⟩ := hq
  have P1 := Pi.pl l0 (fillf 8 0 (S.1 (3 * n)))
  have F1 := (Fr.rf (ad := ad) (nr := nr) (M := M)).st (t := 1) (k := 3 * n) (e := fm_L G 8 (fillf 8 0 (S.1 (3 * n)))) l0
  show GW G X 1 _ 0 0 7 _ []
  refine g_aload_n C dX2_forget_7 rfl ?_
  refine g_getf C fl_X2_18 dX2_forget_8 (P1.knt hn) rfl ?_
  refine g_callV (ci := 0) C dX2_forget_11 cw_X2_31 rfl (c_empty G _ _ _ _ (P1.kset l1) (P1.kpl l1)) (P1.kset l1) rfl rfl (Nat.le_of_ble_eq_true rfl) (by decide) (by decide) (by decide) (by decide) (fun v M2 hq => ?_)
  obtain ⟨rfl, rfl⟩ := hq
  have P2 := P1.pl l1 (fillf 8 0 (va_up S.1 (3 * n) (fillf 8 0 (S.1 (3 * n))) (3 * n + 1)))
  have F2 := F1.st (t := 1) (k := 3 * n + 1) (e := fm_L G 8 (fillf 8 0 (va_up S.1 (3 * n) (fillf 8 0 (S.1 (3 * n))) (3 * n + 1)))) l1
  show GW G X 1 _ 0 0 14 _ []
  refine g_aload_n C dX2_forget_14 rfl ?_
  refine g_getf C fl_X2_21 dX2_forget_15 (P2.knt hn) rfl ?_
  refine g_callV (ci := 0) C dX2_forget_18 cw_X2_31 rfl (c_empty G _ _ _ _ (P2.kset l2) (P2.kpl l2)) (P2.kset l2) rfl rfl (Nat.le_of_ble_eq_true rfl) (by decide) (by decide) (by decide) (by decide) (fun v M3 hq => ?_)
  obtain ⟨rfl, rfl⟩ := hq
  have P3 := P2.pl l2 (fillf 8 0 (va_up (va_up S.1 (3 * n) (fillf 8 0 (S.1 (3 * n)))) (3 * n + 1) (fillf 8 0 (va_up S.1 (3 * n) (fillf 8 0 (S.1 (3 * n))) (3 * n + 1))) (3 * n + 2)))
  have F3 := F2.st (t := 1) (k := 3 * n + 2) (e := fm_L G 8 (fillf 8 0 (va_up (va_up S.1 (3 * n) (fillf 8 0 (S.1 (3 * n)))) (3 * n + 1) (fillf 8 0 (va_up S.1 (3 * n) (fillf 8 0 (S.1 (3 * n))) (3 * n + 1))) (3 * n + 2)))) l2
  show GW G X 1 _ 0 0 21 _ []
  refine g_aload_n C dX2_forget_21 rfl ?_
  refine g_getf C fl_X2_24 dX2_forget_22 (P3.knt hn) rfl ?_
  refine g_ldc C dX2_forget_25 kc_X2_34 ?_
  refine g_callS C dX2_forget_27 cw_X2_35 (c_fillI G (ad 2 n) 512 _ _ 1000000 (P3.kar l3 (lenA_h (by omega))) (by decide)) rfl rfl (Nat.le_of_ble_eq_true rfl) (by decide) (by decide) (by decide) (by decide) (fun v M4 hq => ?_)
  obtain ⟨rfl, rfl⟩ := hq
  refine rt none _ _ _ _ _ (fm_retV dX2_forget_30) ⟨rfl, _, P3.ar l3 _ (lenA_h (by omega)), F3.st (t := 2) l3, (((eqX.rf.pl (k := 3 * n) (by simp) _).pl (k := 3 * n + 1) (by simp) _).pl (k := 3 * n + 2) (by simp) _).ar (j := n) (by simp) _, fun c hc => ⟨?_, ?_, ?_, ?_⟩⟩ (Nat.le_refl _) (Nat.le_refl _)
  · show bq (va_up (va_up (va_up S.1 (3 * n) _) (3 * n + 1) _) (3 * n + 2) _ (3 * n)) c = false
    rw [va_up_ne _ _ (by omega), va_up_ne _ _ (by omega), va_up_self]
    exact bq_fill0 _ c hc
  · show bq (va_up (va_up (va_up S.1 (3 * n) _) (3 * n + 1) _) (3 * n + 2) _ (3 * n + 1)) c = false
    rw [va_up_ne _ _ (by omega), va_up_self]
    exact bq_fill0 _ c hc
  · show bq (va_up (va_up (va_up S.1 (3 * n) _) (3 * n + 1) _) (3 * n + 2) _ (3 * n + 2)) c = false
    rw [va_up_self]
    exact bq_fill0 _ c hc
  · show va_up S.2.1 n _ n c = NEV
    rw [va_up_self]
    exact fillf_lt hc

/-- what find has done, with the counts below i looked at -/
def hitq (gk : Nat → Int64) (h0 : Nat → Int32) (c : Nat) : Bool := bq gk c && decide (h0 c = NEV)
def fdI (S S' : Cs) (k n i : Nat) (rl rd : Int32) : Prop := eqX S S' [3 * n + 2] [n, 5 + n] ∧ ∀ c, c < 512 →
  bq (S'.1 (3 * n + 2)) c = (bq (S.1 (3 * n + 2)) c || (decide (c < i) && hitq (S.1 k) (S.2.1 n) c)) ∧ S'.2.1 n c = (if (decide (c < i) && hitq (S.1 k) (S.2.1 n) c) = true then rd else S.2.1 n c) ∧ S'.2.1 (5 + n) c = (if (decide (c < i) && hitq (S.1 k) (S.2.1 n) c) = true then rl else S.2.1 (5 + n) c)
theorem fdI_0 (S : Cs) (k n : Nat) (rl rd : Int32) : fdI S S k n 0 rl rd := ⟨eqX.rf, fun c _ => by simp⟩
theorem fdI_skip {S S' : Cs} {k n i m : Nat} {rl rd : Int32} (h : fdI S S' k n i rl rd) (him : i ≤ m) (h0 : ∀ c, i ≤ c → c < m → c < 512 → hitq (S.1 k) (S.2.1 n) c = false) : fdI S S' k n m rl rd := by
  refine ⟨h.1, fun c hc => ?_⟩
  have e : (decide (c < m) && hitq (S.1 k) (S.2.1 n) c) = (decide (c < i) && hitq (S.1 k) (S.2.1 n) c) := by
    by_cases h1 : c < i
    · rw [decide_eq_true h1, decide_eq_true (show c < m by omega)]
    · by_cases h2 : c < m
      · rw [h0 c (by omega) h2 hc, Bool.and_false, Bool.and_false]
      · rw [decide_eq_false h1, decide_eq_false h2]
  rw [e]
  exact h.2 c hc
theorem fdI_hit {S S' : Cs} {k n i : Nat} {rl rd : Int32} (h : fdI S S' k n i rl rd) (hi : i < 512) (h0 : hitq (S.1 k) (S.2.1 n) i = true) : fdI S (va_up S'.1 (3 * n + 2) (addf (S'.1 (3 * n + 2)) i), va_up (va_up S'.2.1 n (upd (S'.2.1 n) i rd)) (5 + n) (upd (S'.2.1 (5 + n)) i rl), S'.2.2) k n (i + 1) rl rd := by
  refine ⟨((h.1.pl (k := 3 * n + 2) (by simp) (addf (S'.1 (3 * n + 2)) i)).ar (j := n) (by simp) (upd (S'.2.1 n) i rd)).ar (j := 5 + n) (by simp) (upd (S'.2.1 (5 + n)) i rl), fun c hc => ?_⟩
  obtain ⟨a1, a2, a3⟩ := h.2 c hc
  have e : (decide (c < i + 1) && hitq (S.1 k) (S.2.1 n) c) = ((decide (c < i) && hitq (S.1 k) (S.2.1 n) c) || decide (c = i)) := by
    by_cases h1 : c = i
    · subst h1
      rw [h0, decide_eq_true (Nat.lt_succ_self c), decide_eq_true rfl, Bool.or_true]; rfl
    · rw [decide_eq_false h1, Bool.or_false]
      by_cases h2 : c < i
      · rw [decide_eq_true h2, decide_eq_true (show c < i + 1 by omega)]
      · rw [decide_eq_false h2, decide_eq_false (show ¬ c < i + 1 by omega)]
  refine ⟨?_, ?_, ?_⟩
  · show bq (va_up S'.1 (3 * n + 2) _ (3 * n + 2)) c = _
    rw [va_up_self, bq_addf, a1, e, Bool.or_assoc]
  · show va_up (va_up S'.2.1 n _) (5 + n) _ n c = _
    rw [va_up_ne _ _ (by omega), va_up_self, e]
    by_cases h1 : c = i
    · rw [h1, pk_us, decide_eq_true rfl, Bool.or_true, if_pos rfl]
    · rw [pk_un h1, decide_eq_false h1, Bool.or_false]; exact a2
  · show va_up (va_up S'.2.1 n _) (5 + n) _ (5 + n) c = _
    rw [va_up_self, e]
    by_cases h1 : c = i
    · rw [h1, pk_us, decide_eq_true rfl, Bool.or_true, if_pos rfl]
    · rw [pk_un h1, decide_eq_false h1, Bool.or_false]; exact a3

set_option maxHeartbeats 4000000 in
set_option maxRecDepth 100000 in
theorem l_find {G : fm_G} {ad : Nat → Nat → Nat} {nr : Nat} {S : Cs} {M : fm_M} {X : fm_X} {fr lo mc ms : Nat} {n k : Nat} {rl rd : Int32} (C : GC G X RX2 cX2_find 5 (fr + 1) (lo + 21) mc ms) (hn : n < 5) (hk : k < 15 + 10 * nr) (hkn : k ≠ 3 * n + 2) (kk : ∀ S' M1 ls, Pic G ad nr S' M1 → Fr ad nr M M1 → fdI S S' k n 512 rl rd → GW G X 5 M1 0 0 71 ls []) : ∀ d i S1 M1, i + d = 512 → Pic G ad nr S1 M1 → Fr ad nr M M1 → fdI S S1 k n i rl rd → GW G X 5 M1 0 0 11 [(0, .ref (ad 3 n)), (1, .ref (ad 0 k)), (2, .int rl), (3, .int rd), (4, .int (nI i))] [] := by
  have l2 : 3 * n + 2 < 15 + 10 * nr := by omega
  have l3 : liv nr 2 n := Or.inl (by omega)
  have l4 : liv nr 2 (5 + n) := Or.inl (by omega)
  intro d
  induction d with
  | zero =>
    intro i S1 M1 hi P1 F1 I1
    have e : i = 512 := by omega
    subst e
    refine g_iload C dX2_find_11 rfl ?_
    refine g_sipush C dX2_find_13 (v := nI 512) rfl ?_
    refine g_icmp_geN C dX2_find_16 (tgt := 71) (by decide) (by decide) (by decide) (fun hb => ?_) (fun hb => absurd hb (by omega))
    exact kk S1 M1 _ P1 F1 I1
  | succ d ih =>
    intro i S1 M1 hi P1 F1 I1
    refine g_iload C dX2_find_11 rfl ?_
    refine g_sipush C dX2_find_13 (v := nI 512) rfl ?_
    refine g_icmp_geN C dX2_find_16 (tgt := 71) (by decide) (by omega) (by decide) (fun hb => absurd hb (by omega)) (fun hb => ?_)
    have ek : S1.1 k = S.1 k := I1.1.1 k (by simp [hkn])
    have eh : S1.2.1 n i = S.2.1 n i := by have := (I1.2 i hb).2.1; simp at this; exact this
    refine g_aload_n C dX2_find_19 rfl ?_
    refine g_iload C dX2_find_20 rfl ?_
    refine g_callV (ci := 0) C dX2_find_22 cw_X2_45 rfl (c_holds G _ _ M1 _ (P1.kset hk) (P1.kpl hk) i hb) (P1.kset hk) rfl rfl (Nat.le_of_ble_eq_true rfl) (by omega) (by omega) (by omega) (by omega) (fun v M2 hq => ?_)
    obtain ⟨rfl, rfl⟩ := hq
    show GW G X 5 _ 0 0 25 _ [.int (bI (bq (S1.1 k) i))]
    rw [ek]
    refine g_if_eq C dX2_find_25 (tgt := 65) (by decide) (fun h0 => ?_) (fun h0 => ?_)
    · skip
      refine g_inc1 C dX2_find_65 rfl (by decide) ?_
      refine g_goto C dX2_find_68 (tgt := 11) (by decide) ?_
      refine ih (i + 1) S1 _ (by omega) P1 F1 (fdI_skip I1 (by omega) (fun c h1 h2 _ => ?_))
      rw [show c = i by omega]
      unfold hitq
      rw [bI_0.mp h0, Bool.false_and]
    · skip
      refine g_aload_n C dX2_find_28 rfl ?_
      refine g_getf C fl_X2_24 dX2_find_29 (P1.knt hn) rfl ?_
      refine g_iload C dX2_find_32 rfl ?_
      refine g_ialdN C dX2_find_34 (P1.kar l3 (lenA_h (by omega))) hb (by decide) ?_
      rw [eh]
      refine g_ldc C dX2_find_35 kc_X2_34 ?_
      refine g_icmp_ne C dX2_find_37 (tgt := 65) (by decide) (fun h1 => ?_) (fun h1 => ?_)
      · skip
        refine g_inc1 C dX2_find_65 rfl (by decide) ?_
        refine g_goto C dX2_find_68 (tgt := 11) (by decide) ?_
        refine ih (i + 1) S1 _ (by omega) P1 F1 (fdI_skip I1 (by omega) (fun c h2 h3 _ => ?_))
        rw [show c = i by omega]
        unfold hitq
        rw [decide_eq_false h1, Bool.and_false]
      · skip
        refine g_aload_n C dX2_find_40 rfl ?_
        refine g_getf C fl_X2_24 dX2_find_41 (P1.knt hn) rfl ?_
        refine g_iload C dX2_find_44 rfl ?_
        refine g_iload_n C dX2_find_46 rfl ?_
        refine g_iastN C dX2_find_47 (P1.kar l3 (lenA_h (by omega))) hb (by decide) ?_
        have P2 := P1.ar l3 (upd (S1.2.1 n) i rd) (lenA_h (by omega))
        have F2 := F1.st (t := 2) (k := n) (e := fm_I G 512 (upd (S1.2.1 n) i rd)) l3
        refine g_aload_n C dX2_find_48 rfl ?_
        refine g_getf C fl_X2_28 dX2_find_49 (P2.knt hn) rfl ?_
        refine g_iload C dX2_find_52 rfl ?_
        refine g_iload_n C dX2_find_54 rfl ?_
        refine g_iastN C dX2_find_55 (P2.kar l4 (lenA_h (by omega))) hb (by decide) ?_
        have P3 := P2.ar l4 (upd (va_up S1.2.1 n (upd (S1.2.1 n) i rd) (5 + n)) i rl) (lenA_h (by omega))
        have F3 := F2.st (t := 2) (k := 5 + n) (e := fm_I G 512 (upd (va_up S1.2.1 n (upd (S1.2.1 n) i rd) (5 + n)) i rl)) l4
        refine g_aload_n C dX2_find_56 rfl ?_
        refine g_getf C fl_X2_21 dX2_find_57 (P3.knt hn) rfl ?_
        refine g_iload C dX2_find_60 rfl ?_
        refine g_callV (ci := 0) C dX2_find_62 cw_X2_49 rfl (c_add G _ _ _ _ (P3.kset l2) (P3.kpl l2) i hb) (P3.kset l2) rfl rfl (Nat.le_of_ble_eq_true rfl) (by omega) (by omega) (by omega) (by omega) (fun v M2 hq => ?_)
        obtain ⟨rfl, rfl⟩ := hq
        show GW G X 5 _ 0 0 65 _ []
        refine g_inc1 C dX2_find_65 rfl (by decide) ?_
        refine g_goto C dX2_find_68 (tgt := 11) (by decide) ?_
        refine ih (i + 1) _ _ (by omega) (P3.pl l2 _) (F3.st (t := 1) l2) ?_
        have e9 : va_up S1.2.1 n (upd (S1.2.1 n) i rd) (5 + n) = S1.2.1 (5 + n) := va_up_ne _ _ (by omega)
        have h9 := fdI_hit I1 hb (by unfold hitq; rw [bI_n0.mp h0, decide_eq_true h1]; rfl)
        rw [e9]
        exact h9

set_option maxHeartbeats 4000000 in
set_option maxRecDepth 100000 in
theorem c_find (G : fm_G) (ad : Nat → Nat → Nat) (nr : Nat) (S : Cs) (M : fm_M) (Pi : Pic G ad nr S M) (n k : Nat) (rl rd : Int32) (hn : n < 5) (hk : k < 15 + 10 * nr) (hkn : k ≠ 3 * n + 2) : fm_Ct G yX2_find cX2_find 5 none 1 23 0 0 [.ref (ad 3 n), .ref (ad 0 k), .int rl, .int rd] M (fun v M1 => v = none ∧ ∃ S', Pic G ad nr S' M1 ∧ Fr ad nr M M1 ∧ fdI S S' k n 512 rl rd) := by
  refine fm_head (by decide) (Nat.le_of_ble_eq_true rfl) rfl (fun X C N0 rt => ?_)
  refine g_aload_n C dX2_find_0 rfl ?_
  refine g_callV (ci := 0) C dX2_find_1 cw_X2_41 rfl (c_isEmpty G _ _ M _ (Pi.kset hk) (Pi.kpl hk)) (Pi.kset hk) rfl rfl (Nat.le_of_ble_eq_true rfl) (by decide) (by decide) (by decide) (by decide) (fun v M1 hq => ?_)
  obtain ⟨rfl, rfl⟩ := hq
  show GW G X 5 _ 0 0 4 _ [.int (bI (empq (S.1 k)))]
  refine g_if_eq C dX2_find_4 (tgt := 8) (by decide) (fun h0 => ?_) (fun h0 => ?_)
  · skip
    refine g_iconst C dX2_find_8 (v := nI 0) rfl ?_
    refine g_istore C dX2_find_9 (by decide) ?_
    exact l_find (fr := 0) (lo := 2) C hn hk hkn (fun S' M1 ls P1 F1 I1 => rt none M1 _ _ _ ls (fm_retV dX2_find_71) ⟨rfl, S', P1, F1, I1⟩ (Nat.le_refl _) (Nat.le_refl _)) 512 0 S _ (by decide) Pi Fr.rf (fdI_0 S k n rl rd)
  · refine rt none _ _ _ _ _ (fm_retV dX2_find_7) ⟨rfl, S, Pi, Fr.rf, fdI_skip (fdI_0 S k n rl rd) (by decide) (fun c _ _ hc => ?_)⟩ (Nat.le_refl _) (Nat.le_refl _)
    unfold hitq
    rw [(empq_iff _).mp (bI_n0.mp h0) c hc, Bool.false_and]
