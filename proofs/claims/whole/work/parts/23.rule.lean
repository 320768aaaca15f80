/-! Rule's methods -/
section PICR
variable {G : fm_G} {ad : Nat → Nat → Nat} {nr : Nat} {S : Cs} {M : fm_M}
theorem Pic.left (P : Pic G ad nr S M) {r : Nat} (hr : r < nr) (x : Int32) : Pic G ad nr (S.1, S.2.1, va_up S.2.2 (10 + r) x) (fm_set M (ad 4 r) (fm_O 3 [.int x, .int (S.2.2 (20 + r)), .int (S.2.2 (30 + r)), .int (S.2.2 (40 + r)), .ref (ad 2 (10 + r)), .ref (ad 5 r)])) := by
  have h := P.ru (j := 0) hr (by decide) x rfl
  have e : 10 * 0 + 10 + r = 10 + r := by omega
  rw [e] at h
  have e2 : cel G ad nr (S.1, S.2.1, va_up S.2.2 (10 + r) x) 4 r = fm_O 3 [.int x, .int (S.2.2 (20 + r)), .int (S.2.2 (30 + r)), .int (S.2.2 (40 + r)), .ref (ad 2 (10 + r)), .ref (ad 5 r)] := by
    show fm_O 3 [.int (va_up S.2.2 (10 + r) x (10 + r)), .int (va_up S.2.2 (10 + r) x (20 + r)), .int (va_up S.2.2 (10 + r) x (30 + r)), .int (va_up S.2.2 (10 + r) x (40 + r)), _, _] = _
    rw [va_up_self, va_up_ne _ _ (by omega), va_up_ne _ _ (by omega), va_up_ne _ _ (by omega)]
  rw [e2] at h
  exact h
theorem Pic.uses (P : Pic G ad nr S M) {r : Nat} (hr : r < nr) (x : Int32) : Pic G ad nr (S.1, S.2.1, va_up S.2.2 (20 + r) x) (fm_set M (ad 4 r) (fm_O 3 [.int (S.2.2 (10 + r)), .int x, .int (S.2.2 (30 + r)), .int (S.2.2 (40 + r)), .ref (ad 2 (10 + r)), .ref (ad 5 r)])) := by
  have h := P.ru (j := 1) hr (by decide) x rfl
  have e : 10 * 1 + 10 + r = 20 + r := by omega
  rw [e] at h
  have e2 : cel G ad nr (S.1, S.2.1, va_up S.2.2 (20 + r) x) 4 r = fm_O 3 [.int (S.2.2 (10 + r)), .int x, .int (S.2.2 (30 + r)), .int (S.2.2 (40 + r)), .ref (ad 2 (10 + r)), .ref (ad 5 r)] := by
    show fm_O 3 [.int (va_up S.2.2 (20 + r) x (10 + r)), .int (va_up S.2.2 (20 + r) x (20 + r)), .int (va_up S.2.2 (20 + r) x (30 + r)), .int (va_up S.2.2 (20 + r) x (40 + r)), _, _] = _
    rw [va_up_self, va_up_ne _ _ (by omega), va_up_ne _ _ (by omega), va_up_ne _ _ (by omega)]
  rw [e2] at h
  exact h
theorem Pic.ltr (P : Pic G ad nr S M) {r : Nat} (hr : r < nr) (x : Int32) : Pic G ad nr (S.1, S.2.1, va_up S.2.2 (30 + r) x) (fm_set M (ad 4 r) (fm_O 3 [.int (S.2.2 (10 + r)), .int (S.2.2 (20 + r)), .int x, .int (S.2.2 (40 + r)), .ref (ad 2 (10 + r)), .ref (ad 5 r)])) := by
  have h := P.ru (j := 2) hr (by decide) x rfl
  have e : 10 * 2 + 10 + r = 30 + r := by omega
  rw [e] at h
  have e2 : cel G ad nr (S.1, S.2.1, va_up S.2.2 (30 + r) x) 4 r = fm_O 3 [.int (S.2.2 (10 + r)), .int (S.2.2 (20 + r)), .int x, .int (S.2.2 (40 + r)), .ref (ad 2 (10 + r)), .ref (ad 5 r)] := by
    show fm_O 3 [.int (va_up S.2.2 (30 + r) x (10 + r)), .int (va_up S.2.2 (30 + r) x (20 + r)), .int (va_up S.2.2 (30 + r) x (30 + r)), .int (va_up S.2.2 (30 + r) x (40 + r)), _, _] = _
    rw [va_up_self, va_up_ne _ _ (by omega), va_up_ne _ _ (by omega), va_up_ne _ _ (by omega)]
  rw [e2] at h
  exact h
theorem Pic.size (P : Pic G ad nr S M) {r : Nat} (hr : r < nr) (x : Int32) : Pic G ad nr (S.1, S.2.1, va_up S.2.2 (40 + r) x) (fm_set M (ad 4 r) (fm_O 3 [.int (S.2.2 (10 + r)), .int (S.2.2 (20 + r)), .int (S.2.2 (30 + r)), .int x, .ref (ad 2 (10 + r)), .ref (ad 5 r)])) := by
  have h := P.ru (j := 3) hr (by decide) x rfl
  have e : 10 * 3 + 10 + r = 40 + r := by omega
  rw [e] at h
  have e2 : cel G ad nr (S.1, S.2.1, va_up S.2.2 (40 + r) x) 4 r = fm_O 3 [.int (S.2.2 (10 + r)), .int (S.2.2 (20 + r)), .int (S.2.2 (30 + r)), .int x, .ref (ad 2 (10 + r)), .ref (ad 5 r)] := by
    show fm_O 3 [.int (va_up S.2.2 (40 + r) x (10 + r)), .int (va_up S.2.2 (40 + r) x (20 + r)), .int (va_up S.2.2 (40 + r) x (30 + r)), .int (va_up S.2.2 (40 + r) x (40 + r)), _, _] = _
    rw [va_up_self, va_up_ne _ _ (by omega), va_up_ne _ _ (by omega), va_up_ne _ _ (by omega)]
  rw [e2] at h
  exact h
end PICR
theorem lenA_p {r : Nat} (h : r < 10) : lenA (10 + r) = 4 := by
  unfold lenA
  rw [if_neg (by omega), if_pos (by omega)]
/-- a rule's own numbers: left side, nonterminals, letters -/
def ruI (S : Cs) (r lf sz lc : Nat) (pt : Nat → Nat) : Prop := S.2.2 (10 + r) = nI lf ∧ lf < 5 ∧ S.2.2 (30 + r) = nI lc ∧ lc < 512 ∧ S.2.2 (40 + r) = nI sz ∧ sz ≤ 4 ∧ ∀ i, i < sz → pt i < 5 ∧ S.2.1 (10 + r) i = nI (pt i)
/-- the same but for sets and arrays of a kind -/
def eqY (S S' : Cs) (pk pj : Nat → Prop) : Prop := (∀ k, ¬ pk k → S'.1 k = S.1 k) ∧ (∀ j, ¬ pj j → S'.2.1 j = S.2.1 j) ∧ S'.2.2 = S.2.2
theorem eqY.rf {S : Cs} {pk pj : Nat → Prop} : eqY S S pk pj := ⟨fun _ _ => rfl, fun _ _ => rfl, rfl⟩
theorem eqY.tr {S S' S'' : Cs} {pk pj : Nat → Prop} (h : eqY S S' pk pj) (h2 : eqY S' S'' pk pj) : eqY S S'' pk pj := ⟨fun k hk => (h2.1 k hk).trans (h.1 k hk), fun j hj => (h2.2.1 j hj).trans (h.2.1 j hj), h2.2.2.trans h.2.2⟩
theorem eqY.wk {S S' : Cs} {pk pj pk' pj' : Nat → Prop} (h : eqY S S' pk pj) (hk : ∀ k, pk k → pk' k) (hj : ∀ j, pj j → pj' j) : eqY S S' pk' pj' := ⟨fun k z => h.1 k (fun q => z (hk k q)), fun j z => h.2.1 j (fun q => z (hj j q)), h.2.2⟩
theorem eqX.Y {S S' : Cs} {ks js : List Nat} {pk pj : Nat → Prop} (h : eqX S S' ks js) (hk : ∀ k ∈ ks, pk k) (hj : ∀ j ∈ js, pj j) : eqY S S' pk pj := ⟨fun k z => h.1 k (fun q => z (hk k q)), fun j z => h.2.1 j (fun q => z (hj j q)), h.2.2⟩
/-- the sets and arrays of rule r's ends -/
def kR (r : Nat) : Nat → Prop := fun k => 15 + 10 * r ≤ k ∧ k < 25 + 10 * r
def jR (r : Nat) : Nat → Prop := fun j => 20 + 5 * r ≤ j ∧ j < 25 + 5 * r
theorem ruI.of {S S' : Cs} {r lf sz lc : Nat} {pt : Nat → Nat} (h : ruI S r lf sz lc pt) (h2 : S'.2.2 = S.2.2) (h3 : S'.2.1 (10 + r) = S.2.1 (10 + r)) : ruI S' r lf sz lc pt := by
  obtain ⟨a1, a2, a3, a4, a5, a6, a7⟩ := h
  exact ⟨by rw [h2]; exact a1, a2, by rw [h2]; exact a3, a4, by rw [h2]; exact a5, a6, fun i hi => ⟨(a7 i hi).1, by rw [h3]; exact (a7 i hi).2⟩⟩
theorem ap_sh : ∀ s, s < 3 → nI 1 <<< ((nI 3 * (nI (5 + s) - nI 5)) &&& 31) = nI (8 ^ s) := by decide +kernel
theorem lo_sh {lc l : Nat} (hlc : lc < 512) (hl : l < 3) : (nI lc >>> ((nI 3 * nI l) &&& 31)) &&& nI 7 = nI (lc / 8 ^ l % 8) := by
  rcases (show l = 0 ∨ l = 1 ∨ l = 2 by omega) with rfl | rfl | rfl
  · rw [show (nI 3 * nI 0) &&& 31 = nI 0 by decide +kernel, pk_shrN (n := lc) (by omega) (nI 0) 0 (by decide)]
    exact pk_andN (by omega) 3 (by decide)
  · rw [show (nI 3 * nI 1) &&& 31 = nI 3 by decide +kernel, pk_shrN (n := lc) (by omega) (nI 3) 3 (by decide)]
    exact pk_andN (by omega) 3 (by decide)
  · rw [show (nI 3 * nI 2) &&& 31 = nI 6 by decide +kernel, pk_shrN (n := lc) (by omega) (nI 6) 6 (by decide)]
    exact pk_andN (by omega) 3 (by decide)
/-- a counter that runs down to -1 -/
def dn : Nat → Int32
  | 0 => -1
  | m + 1 => nI m
theorem dn_of (m : Nat) : nI m - nI 1 = dn m := by
  cases m with
  | zero => decide
  | succ m => exact (pk_sub (by omega)).trans (congrArg nI (by omega))
theorem dn_m1 (m : Nat) : nI m + Int32.ofInt (-1) = dn m := by
  cases m with
  | zero => decide
  | succ m => exact pk_m1 m

set_option maxHeartbeats 4000000 in
set_option maxRecDepth 100000 in
theorem c_begin (G : fm_G) (ad : Nat → Nat → Nat) (nr : Nat) (S : Cs) (M : fm_M) (Pi : Pic G ad nr S M) (r : Nat) (hr : r < nr) (x : Int32) : fm_Ct G yX3_begin cX3_begin 2 none 0 0 0 0 [.ref (ad 4 r), .int x] M (fun v M1 => v = none ∧ Pic G ad nr (S.1, S.2.1, va_up (va_up (va_up (va_up S.2.2 (10 + r) x) (20 + r) (nI 0)) (30 + r) (nI 0)) (40 + r) (nI 0)) M1 ∧ Fr ad nr M M1) := by
  refine fm_head (by decide) (Nat.le_of_ble_eq_true rfl) rfl (fun X C N0 rt => ?_)
  refine g_aload_n C dX3_begin_0 rfl ?_
  refine g_iload_n C dX3_begin_1 rfl ?_
  refine g_putf C fl_X3_9 rfl dX3_begin_2 (Pi.kru hr) rfl rfl (Nat.le_of_ble_eq_true rfl) ?_
  have P1 := Pi.left hr x
  refine g_aload_n C dX3_begin_5 rfl ?_
  refine g_iconst C dX3_begin_6 (v := nI 0) rfl ?_
  refine g_putf C fl_X3_15 rfl dX3_begin_7 (P1.kru hr) rfl rfl (Nat.le_of_ble_eq_true rfl) ?_
  have P2 := P1.uses hr (nI 0)
  refine g_aload_n C dX3_begin_10 rfl ?_
  refine g_iconst C dX3_begin_11 (v := nI 0) rfl ?_
  refine g_putf C fl_X3_18 rfl dX3_begin_12 (P2.kru hr) rfl rfl (Nat.le_of_ble_eq_true rfl) ?_
  have P3 := P2.ltr hr (nI 0)
  refine g_aload_n C dX3_begin_15 rfl ?_
  refine g_iconst C dX3_begin_16 (v := nI 0) rfl ?_
  refine g_putf C fl_X3_21 rfl dX3_begin_17 (P3.kru hr) rfl rfl (Nat.le_of_ble_eq_true rfl) ?_
  have P4 := P3.size hr (nI 0)
  exact rt none _ _ _ _ _ (fm_retV dX3_begin_20) ⟨rfl, P4, (((Fr.rf.st (t := 4) hr).st (t := 4) hr).st (t := 4) hr).st (t := 4) hr⟩ (Nat.le_refl _) (Nat.le_refl _)

set_option maxHeartbeats 4000000 in
set_option maxRecDepth 100000 in
theorem c_append_l (G : fm_G) (ad : Nat → Nat → Nat) (nr : Nat) (S : Cs) (M : fm_M) (Pi : Pic G ad nr S M) (r s lc : Nat) (hr : r < nr) (hs : s < 3) (hlc : S.2.2 (30 + r) = nI lc) : fm_Ct G yX3_append cX3_append 2 none 0 0 0 0 [.ref (ad 4 r), .int (nI (5 + s))] M (fun v M1 => v = none ∧ Pic G ad nr (S.1, S.2.1, va_up S.2.2 (30 + r) (nI (lc + 8 ^ s))) M1 ∧ Fr ad nr M M1) := by
  refine fm_head (by decide) (Nat.le_of_ble_eq_true rfl) rfl (fun X C N0 rt => ?_)
  refine g_iload_n C dX3_append_0 rfl ?_
  refine g_iconst C dX3_append_1 (v := nI 5) rfl ?_
  refine g_icmp_ltN C dX3_append_2 (tgt := 24) (by decide) (by omega) (by decide) (fun hb => absurd hb (by omega)) (fun hb => ?_)
  refine g_aload_n C dX3_append_5 rfl ?_
  refine g_dup C dX3_append_6 rfl ?_
  refine g_getf C fl_X3_18 dX3_append_7 (Pi.kru hr) rfl ?_
  refine g_iconst C dX3_append_10 (v := nI 1) rfl ?_
  refine g_iconst C dX3_append_11 (v := nI 3) rfl ?_
  refine g_iload_n C dX3_append_12 rfl ?_
  refine g_iconst C dX3_append_13 (v := nI 5) rfl ?_
  refine g_isub C dX3_append_14 ?_
  refine g_imul C dX3_append_15 ?_
  refine g_ishl C dX3_append_16 ?_
  refine g_topI (ap_sh s hs) ?_
  refine g_iadd C dX3_append_17 ?_
  refine g_topI (show S.2.2 (30 + r) + nI (8 ^ s) = nI (lc + 8 ^ s) by rw [hlc]; exact nI_add lc (8 ^ s)) ?_
  refine g_putf C fl_X3_18 rfl dX3_append_18 (Pi.kru hr) rfl rfl (Nat.le_of_ble_eq_true rfl) ?_
  refine g_goto C dX3_append_21 (tgt := 57) (by decide) ?_
  exact rt none _ _ _ _ _ (fm_retV dX3_append_57) ⟨rfl, Pi.ltr hr _, Fr.rf.st (t := 4) hr⟩ (Nat.le_refl _) (Nat.le_refl _)

set_option maxHeartbeats 4000000 in
set_option maxRecDepth 100000 in
theorem c_append_0 (G : fm_G) (ad : Nat → Nat → Nat) (nr : Nat) (S : Cs) (M : fm_M) (Pi : Pic G ad nr S M) (r : Nat) (hr : r < nr) : fm_Ct G yX3_append cX3_append 2 none 0 0 0 0 [.ref (ad 4 r), .int (-1)] M (fun v M1 => v = none ∧ M1 = M) := by
  refine fm_head (by decide) (Nat.le_of_ble_eq_true rfl) rfl (fun X C N0 rt => ?_)
  refine g_iload_n C dX3_append_0 rfl ?_
  refine g_iconst C dX3_append_1 (v := nI 5) rfl ?_
  refine g_icmp_lt C dX3_append_2 (tgt := 24) (by decide) (fun hb => ?_) (fun hb => absurd (by decide) hb)
  refine g_iload_n C dX3_append_24 rfl ?_
  refine g_iconst C dX3_append_25 (v := -1) rfl ?_
  refine g_icmp_eq C dX3_append_26 (tgt := 57) (by decide) (fun hb => ?_) (fun hb => absurd rfl hb)
  exact rt none _ _ _ _ _ (fm_retV dX3_append_57) ⟨rfl, rfl⟩ (Nat.le_refl _) (Nat.le_refl _)

set_option maxHeartbeats 4000000 in
set_option maxRecDepth 100000 in
theorem c_append_n (G : fm_G) (ad : Nat → Nat → Nat) (nr : Nat) (S : Cs) (M : fm_M) (Pi : Pic G ad nr S M) (r n sz : Nat) (hr : r < nr) (hn : n < 5) (hsz : S.2.2 (40 + r) = nI sz) (hz : sz < 4) : fm_Ct G yX3_append cX3_append 2 none 0 0 0 0 [.ref (ad 4 r), .int (nI n)] M (fun v M1 => v = none ∧ Pic G ad nr (S.1, va_up S.2.1 (10 + r) (upd (S.2.1 (10 + r)) sz (nI n)), va_up S.2.2 (40 + r) (nI (sz + 1))) M1 ∧ Fr ad nr M M1) := by
  have h10 := Pi.1
  have lp : liv nr 2 (10 + r) := Or.inr (Or.inl ⟨by omega, by omega⟩)
  refine fm_head (by decide) (Nat.le_of_ble_eq_true rfl) rfl (fun X C N0 rt => ?_)
  refine g_iload_n C dX3_append_0 rfl ?_
  refine g_iconst C dX3_append_1 (v := nI 5) rfl ?_
  refine g_icmp_ltN C dX3_append_2 (tgt := 24) (by decide) (by omega) (by decide) (fun hb => ?_) (fun hb => absurd hb (by omega))
  refine g_iload_n C dX3_append_24 rfl ?_
  refine g_iconst C dX3_append_25 (v := -1) rfl ?_
  refine g_icmp_eq C dX3_append_26 (tgt := 57) (by decide) (fun hb => absurd hb (fun z => nI_pos (n := n) (by omega) (by rw [z]; decide))) (fun hb => ?_)
  refine g_aload_n C dX3_append_29 rfl ?_
  refine g_getf C fl_X3_21 dX3_append_30 (Pi.kru hr) rfl ?_
  rw [hsz]
  refine g_iconst C dX3_append_33 (v := nI 4) rfl ?_
  refine g_icmp_geN C dX3_append_34 (tgt := 57) (by decide) (by omega) (by decide) (fun hb => absurd hb (by omega)) (fun hb => ?_)
  refine g_aload_n C dX3_append_37 rfl ?_
  refine g_getf C fl_X3_24 dX3_append_38 (Pi.kru hr) rfl ?_
  refine g_aload_n C dX3_append_41 rfl ?_
  refine g_getf C fl_X3_21 dX3_append_42 (Pi.kru hr) rfl ?_
  rw [hsz]
  refine g_iload_n C dX3_append_45 rfl ?_
  refine g_iastN C dX3_append_46 (Pi.kar lp (lenA_p (by omega))) hz (by decide) ?_
  have P1 := Pi.ar lp (upd (S.2.1 (10 + r)) sz (nI n)) (lenA_p (by omega))
  refine g_aload_n C dX3_append_47 rfl ?_
  refine g_dup C dX3_append_48 rfl ?_
  refine g_getf C fl_X3_21 dX3_append_49 (P1.kru hr) rfl ?_
  refine g_iconst C dX3_append_52 (v := nI 1) rfl ?_
  refine g_iadd C dX3_append_53 ?_
  refine g_topI (by show S.2.2 (40 + r) + nI 1 = nI (sz + 1); rw [hsz]; exact nI_add sz 1) ?_
  refine g_putf C fl_X3_21 rfl dX3_append_54 (P1.kru hr) rfl rfl (Nat.le_of_ble_eq_true rfl) ?_
  exact rt none _ _ _ _ _ (fm_retV dX3_append_57) ⟨rfl, P1.size hr _, (Fr.rf.st (t := 2) lp).st (t := 4) hr⟩ (Nat.le_refl _) (Nat.le_refl _)

set_option maxHeartbeats 4000000 in
set_option maxRecDepth 100000 in
theorem c_lettersOf (G : fm_G) (ad : Nat → Nat → Nat) (nr : Nat) (S : Cs) (M : fm_M) (Pi : Pic G ad nr S M) (r l lc : Nat) (hr : r < nr) (hl : l < 3) (hlc : S.2.2 (30 + r) = nI lc) (h5 : lc < 512) : fm_Ct G yX3_lettersOf cX3_lettersOf 2 (some .int) 0 0 0 0 [.ref (ad 4 r), .int (nI l)] M (fun v M1 => v = some (.int (nI (lc / 8 ^ l % 8))) ∧ M1 = M) := by
  refine fm_head (by decide) (Nat.le_of_ble_eq_true rfl) rfl (fun X C N0 rt => ?_)
  refine g_aload_n C dX3_lettersOf_0 rfl ?_
  refine g_getf C fl_X3_18 dX3_lettersOf_1 (Pi.kru hr) rfl ?_
  rw [hlc]
  refine g_iconst C dX3_lettersOf_4 (v := nI 3) rfl ?_
  refine g_iload_n C dX3_lettersOf_5 rfl ?_
  refine g_imul C dX3_lettersOf_6 ?_
  refine g_ishr C dX3_lettersOf_7 ?_
  refine g_bipush C dX3_lettersOf_8 (v := nI 7) rfl ?_
  refine g_iand C dX3_lettersOf_10 ?_
  exact rt (some (.int _)) _ _ _ _ _ (fm_retI dX3_lettersOf_11) ⟨by rw [lo_sh h5 hl], rfl⟩ (Nat.le_refl _) (Nat.le_refl _)

set_option maxHeartbeats 4000000 in
set_option maxRecDepth 100000 in
theorem c_newestCounts (G : fm_G) (ad : Nat → Nat → Nat) (nr : Nat) (S : Cs) (M : fm_M) (Pi : Pic G ad nr S M) (r : Nat) (hr : r < nr) : fm_Ct G yX3_newestCounts cX3_newestCounts 1 (some (.object "LetterCounts$CountSet")) 0 0 0 0 [.ref (ad 4 r)] M (fun v M1 => v = some (.ref (ad 0 (16 + 10 * r))) ∧ M1 = M) := by
  refine fm_head (by decide) (Nat.le_of_ble_eq_true rfl) rfl (fun X C N0 rt => ?_)
  refine g_aload_n C dX3_newestCounts_0 rfl ?_
  refine g_getf C fl_X3_30 dX3_newestCounts_1 (Pi.kru hr) rfl ?_
  refine g_iconst C dX3_newestCounts_4 (v := nI 0) rfl ?_
  refine g_aaldN C dX3_newestCounts_5 (Pi.kends hr) rfl (by decide) (by decide) (kends_at (by decide)) ?_
  refine g_getf C fl_X3_46 dX3_newestCounts_6 (Pi.kend (k := 5 * r + 0) (by omega)) rfl ?_
  exact rt (some (.ref _)) _ _ _ _ _ (fm_retA dX3_newestCounts_9) ⟨by rw [show 16 + 2 * (5 * r + 0) = 16 + 10 * r by omega], rfl⟩ (Nat.le_refl _) (Nat.le_refl _)

set_option maxHeartbeats 4000000 in
set_option maxRecDepth 100000 in
theorem l_timesOf {G : fm_G} {ad : Nat → Nat → Nat} {nr : Nat} {S : Cs} {M : fm_M} {X : fm_X} {fr lo mc ms : Nat} {r n lf sz lc : Nat} {pt : Nat → Nat} (C : GC G X RX3 cX3_timesOf 4 fr lo mc ms) (Pi : Pic G ad nr S M) (hr : r < nr) (hn : n < 5) (hI : ruI S r lf sz lc pt) (kk : ∀ ls, fm_lk ls 2 = some (.int (nI (cntq (fun i => decide (pt i = n)) sz))) → GW G X 4 M 0 0 31 ls []) : ∀ d i, i + d = sz → GW G X 4 M 0 0 4 [(0, .ref (ad 4 r)), (1, .int (nI n)), (2, .int (nI (cntq (fun i => decide (pt i = n)) i))), (3, .int (nI i))] [] := by
  have h10 := Pi.1
  have lp : liv nr 2 (10 + r) := Or.inr (Or.inl ⟨by omega, by omega⟩)
  obtain ⟨i1, i2, i3, i4, i5, i6, i7⟩ := hI
  intro d
  induction d with
  | zero =>
    intro i hi
    refine g_iload_n C dX3_timesOf_4 rfl ?_
    refine g_aload_n C dX3_timesOf_5 rfl ?_
    refine g_getf C fl_X3_21 dX3_timesOf_6 (Pi.kru hr) rfl ?_
    rw [i5]
    refine g_icmp_geN C dX3_timesOf_9 (tgt := 31) (by decide) (by omega) (by omega) (fun hb => ?_) (fun hb => absurd hb (by omega))
    exact kk _ (by rw [← hi]; rfl)
  | succ d ih =>
    intro i hi
    refine g_iload_n C dX3_timesOf_4 rfl ?_
    refine g_aload_n C dX3_timesOf_5 rfl ?_
    refine g_getf C fl_X3_21 dX3_timesOf_6 (Pi.kru hr) rfl ?_
    rw [i5]
    refine g_icmp_geN C dX3_timesOf_9 (tgt := 31) (by decide) (by omega) (by omega) (fun hb => absurd hb (by omega)) (fun hb => ?_)
    obtain ⟨p1, p2⟩ := i7 i hb
    refine g_aload_n C dX3_timesOf_12 rfl ?_
    refine g_getf C fl_X3_24 dX3_timesOf_13 (Pi.kru hr) rfl ?_
    refine g_iload_n C dX3_timesOf_16 rfl ?_
    refine g_ialdN C dX3_timesOf_17 (Pi.kar lp (lenA_p (by omega))) (by omega) (by decide) ?_
    rw [p2]
    refine g_iload_n C dX3_timesOf_18 rfl ?_
    refine g_icmp_neN C dX3_timesOf_19 (tgt := 25) (by decide) (by omega) (by omega) (fun h1 => ?_) (fun h1 => ?_)
    · have e : cntq (fun i => decide (pt i = n)) (i + 1) = cntq (fun i => decide (pt i = n)) i := by
        show _ + (if decide (pt i = n) = true then 1 else 0) = _
        rw [decide_eq_false h1]; rfl
      refine g_inc1 C dX3_timesOf_25 rfl (by decide) ?_
      refine g_goto C dX3_timesOf_28 (tgt := 4) (by decide) ?_
      rw [← e]
      exact ih (i + 1) (by omega)
    · have e : cntq (fun i => decide (pt i = n)) (i + 1) = cntq (fun i => decide (pt i = n)) i + 1 := by
        show _ + (if decide (pt i = n) = true then 1 else 0) = _
        rw [decide_eq_true h1]; rfl
      refine g_inc1 C dX3_timesOf_22 rfl (by decide) ?_
      refine g_inc1 C dX3_timesOf_25 rfl (by decide) ?_
      refine g_goto C dX3_timesOf_28 (tgt := 4) (by decide) ?_
      rw [← e]
      exact ih (i + 1) (by omega)

set_option maxHeartbeats 4000000 in
set_option maxRecDepth 100000 in
theorem c_timesOf (G : fm_G) (ad : Nat → Nat → Nat) (nr : Nat) (S : Cs) (M : fm_M) (Pi : Pic G ad nr S M) (r n lf sz lc : Nat) (pt : Nat → Nat) (hr : r < nr) (hn : n < 5) (hI : ruI S r lf sz lc pt) : fm_Ct G yX3_timesOf cX3_timesOf 4 (some .int) 0 0 0 0 [.ref (ad 4 r), .int (nI n)] M (fun v M1 => v = some (.int (nI (cntq (fun i => decide (pt i = n)) sz))) ∧ M1 = M) := by
  refine fm_head (by decide) (Nat.le_of_ble_eq_true rfl) rfl (fun X C N0 rt => ?_)
  refine g_iconst C dX3_timesOf_0 (v := nI 0) rfl ?_
  refine g_istore_n C dX3_timesOf_1 (by decide) ?_
  refine g_iconst C dX3_timesOf_2 (v := nI 0) rfl ?_
  refine g_istore_n C dX3_timesOf_3 (by decide) ?_
  refine l_timesOf C Pi hr hn hI (fun ls h1 => ?_) sz 0 (by omega)
  refine g_iload_n C dX3_timesOf_31 h1 ?_
  exact rt (some (.int _)) _ _ _ _ _ (fm_retI dX3_timesOf_32) ⟨rfl, rfl⟩ (Nat.le_refl _) (Nat.le_refl _)

def bitsR (pt : Nat → Nat) : Nat → Int32
  | 0 => nI 0
  | i + 1 => bitsR pt i ||| (nI 1 <<< (nI (pt i) &&& 31))

set_option maxHeartbeats 4000000 in
set_option maxRecDepth 100000 in
theorem l_bits {G : fm_G} {ad : Nat → Nat → Nat} {nr : Nat} {S : Cs} {M : fm_M} {X : fm_X} {fr lo mc ms : Nat} {r lf sz lc : Nat} {pt : Nat → Nat} (C : GC G X RX3 cX3_nonterminalBits 3 fr lo mc ms) (Pi : Pic G ad nr S M) (hr : r < nr) (hI : ruI S r lf sz lc pt) (kk : ∀ ls, fm_lk ls 1 = some (.int (bitsR pt sz)) → GW G X 3 M 0 0 29 ls []) : ∀ d i, i + d = sz → GW G X 3 M 0 0 4 [(0, .ref (ad 4 r)), (1, .int (bitsR pt i)), (2, .int (nI i))] [] := by
  have h10 := Pi.1
  have lp : liv nr 2 (10 + r) := Or.inr (Or.inl ⟨by omega, by omega⟩)
  obtain ⟨i1, i2, i3, i4, i5, i6, i7⟩ := hI
  intro d
  induction d with
  | zero =>
    intro i hi
    refine g_iload_n C dX3_nonterminalBits_4 rfl ?_
    refine g_aload_n C dX3_nonterminalBits_5 rfl ?_
    refine g_getf C fl_X3_21 dX3_nonterminalBits_6 (Pi.kru hr) rfl ?_
    rw [i5]
    refine g_icmp_geN C dX3_nonterminalBits_9 (tgt := 29) (by decide) (by omega) (by omega) (fun hb => ?_) (fun hb => absurd hb (by omega))
    exact kk _ (by rw [← hi]; rfl)
  | succ d ih =>
    intro i hi
    refine g_iload_n C dX3_nonterminalBits_4 rfl ?_
    refine g_aload_n C dX3_nonterminalBits_5 rfl ?_
    refine g_getf C fl_X3_21 dX3_nonterminalBits_6 (Pi.kru hr) rfl ?_
    rw [i5]
    refine g_icmp_geN C dX3_nonterminalBits_9 (tgt := 29) (by decide) (by omega) (by omega) (fun hb => absurd hb (by omega)) (fun hb => ?_)
    obtain ⟨p1, p2⟩ := i7 i hb
    refine g_iload_n C dX3_nonterminalBits_12 rfl ?_
    refine g_iconst C dX3_nonterminalBits_13 (v := nI 1) rfl ?_
    refine g_aload_n C dX3_nonterminalBits_14 rfl ?_
    refine g_getf C fl_X3_24 dX3_nonterminalBits_15 (Pi.kru hr) rfl ?_
    refine g_iload_n C dX3_nonterminalBits_18 rfl ?_
    refine g_ialdN C dX3_nonterminalBits_19 (Pi.kar lp (lenA_p (by omega))) (by omega) (by decide) ?_
    rw [p2]
    refine g_ishl C dX3_nonterminalBits_20 ?_
    refine g_ior C dX3_nonterminalBits_21 ?_
    refine g_istore_n C dX3_nonterminalBits_22 (by decide) ?_
    refine g_inc1 C dX3_nonterminalBits_23 rfl (by decide) ?_
    refine g_goto C dX3_nonterminalBits_26 (tgt := 4) (by decide) ?_
    exact ih (i + 1) (by omega)

set_option maxHeartbeats 4000000 in
set_option maxRecDepth 100000 in
theorem c_nonterminalBits (G : fm_G) (ad : Nat → Nat → Nat) (nr : Nat) (S : Cs) (M : fm_M) (Pi : Pic G ad nr S M) (r lf sz lc : Nat) (pt : Nat → Nat) (hr : r < nr) (hI : ruI S r lf sz lc pt) : fm_Ct G yX3_nonterminalBits cX3_nonterminalBits 3 (some .int) 0 0 0 0 [.ref (ad 4 r)] M (fun v M1 => v = some (.int (bitsR pt sz)) ∧ M1 = M) := by
  refine fm_head (by decide) (Nat.le_of_ble_eq_true rfl) rfl (fun X C N0 rt => ?_)
  refine g_iconst C dX3_nonterminalBits_0 (v := nI 0) rfl ?_
  refine g_istore_n C dX3_nonterminalBits_1 (by decide) ?_
  refine g_iconst C dX3_nonterminalBits_2 (v := nI 0) rfl ?_
  refine g_istore_n C dX3_nonterminalBits_3 (by decide) ?_
  refine l_bits C Pi hr hI (fun ls h1 => ?_) sz 0 (by omega)
  refine g_iload_n C dX3_nonterminalBits_29 h1 ?_
  exact rt (some (.int _)) _ _ _ _ _ (fm_retI dX3_nonterminalBits_30) ⟨rfl, rfl⟩ (Nat.le_refl _) (Nat.le_refl _)

/-- the ends below i are empty -/
def fgI (S S' : Cs) (r i : Nat) : Prop := eqY S S' (kR r) (jR r) ∧ ∀ j, j < i → ∀ c, c < 512 → bq (S'.1 (15 + 10 * r + 2 * j)) c = false ∧ bq (S'.1 (16 + 10 * r + 2 * j)) c = false ∧ S'.2.1 (20 + 5 * r + j) c = NEV

set_option maxHeartbeats 4000000 in
set_option maxRecDepth 100000 in
theorem l_R_forget {G : fm_G} {ad : Nat → Nat → Nat} {nr : Nat} {S : Cs} {M : fm_M} {X : fm_X} {fr lo mc ms : Nat} {r lf sz lc : Nat} {pt : Nat → Nat} (C : GC G X RX3 cX3_forget 2 (fr + 3) (lo + 64) mc ms) (hr : r < nr) (hI : ruI S r lf sz lc pt) (kk : ∀ S' M1 ls, Pic G ad nr S' M1 → Fr ad nr M M1 → fgI S S' r (sz + 1) → GW G X 2 M1 0 0 25 ls []) : ∀ d i S1 M1, i + d = sz + 1 → Pic G ad nr S1 M1 → Fr ad nr M M1 → fgI S S1 r i → GW G X 2 M1 0 0 2 [(0, .ref (ad 4 r)), (1, .int (nI i))] [] := by
  obtain ⟨i1, i2, i3, i4, i5, i6, i7⟩ := hI
  intro d
  induction d with
  | zero =>
    intro i S1 M1 hi P1 F1 I1
    have e5 : S1.2.2 (40 + r) = nI sz := by rw [I1.1.2.2]; exact i5
    refine g_iload_n C dX3_forget_2 rfl ?_
    refine g_aload_n C dX3_forget_3 rfl ?_
    refine g_getf C fl_X3_21 dX3_forget_4 (P1.kru hr) rfl ?_
    rw [e5]
    refine g_icmp_gtN C dX3_forget_7 (tgt := 25) (by decide) (by omega) (by omega) (fun hb => ?_) (fun hb => absurd hb (by omega))
    exact kk S1 M1 _ P1 F1 (by rw [← hi]; exact I1)
  | succ d ih =>
    intro i S1 M1 hi P1 F1 I1
    have e5 : S1.2.2 (40 + r) = nI sz := by rw [I1.1.2.2]; exact i5
    refine g_iload_n C dX3_forget_2 rfl ?_
    refine g_aload_n C dX3_forget_3 rfl ?_
    refine g_getf C fl_X3_21 dX3_forget_4 (P1.kru hr) rfl ?_
    rw [e5]
    refine g_icmp_gtN C dX3_forget_7 (tgt := 25) (by decide) (by omega) (by omega) (fun hb => absurd hb (by omega)) (fun hb => ?_)
    have he : 5 * r + i < 5 * nr := by omega
    refine g_aload_n C dX3_forget_10 rfl ?_
    refine g_getf C fl_X3_30 dX3_forget_11 (P1.kru hr) rfl ?_
    refine g_iload_n C dX3_forget_14 rfl ?_
    refine g_aaldN C dX3_forget_15 (P1.kends hr) rfl (by omega) (by decide) (kends_at (by omega)) ?_
    refine g_callV (ci := 1) C dX3_forget_16 cw_X3_35 rfl (c_End_forget G ad nr S1 M1 P1 (5 * r + i) he) (P1.kend he) rfl rfl (Nat.le_of_ble_eq_true rfl) (by omega) (by omega) (by omega) (by omega) (fun v M2 hq => ?_)
    obtain ⟨rfl, S2, P2, F2, E2, z2⟩ := hq
    show GW G X 2 M2 0 0 19 _ []
    refine g_inc1 C dX3_forget_19 rfl (by decide) ?_
    refine g_goto C dX3_forget_22 (tgt := 2) (by decide) ?_
    refine ih (i + 1) S2 M2 (by omega) P2 (F1.tr F2) ⟨I1.1.tr (E2.Y (by intro k hk; simp at hk; unfold kR; omega) (by intro k hk; simp at hk; unfold jR; omega)), fun j hj c hc => ?_⟩
    by_cases hji : j = i
    · subst hji
      have z := z2 c hc
      rw [show 15 + 2 * (5 * r + j) = 15 + 10 * r + 2 * j by omega, show 16 + 2 * (5 * r + j) = 16 + 10 * r + 2 * j by omega, show 20 + (5 * r + j) = 20 + 5 * r + j by omega] at z
      exact z
    · have z := I1.2 j (by omega) c hc
      rw [E2.1 _ (by simp; omega), E2.1 _ (by simp; omega), E2.2.1 _ (by simp; omega)]
      exact z

set_option maxHeartbeats 4000000 in
set_option maxRecDepth 100000 in
theorem c_R_forget (G : fm_G) (ad : Nat → Nat → Nat) (nr : Nat) (S : Cs) (M : fm_M) (Pi : Pic G ad nr S M) (r lf sz lc : Nat) (pt : Nat → Nat) (hr : r < nr) (hI : ruI S r lf sz lc pt) : fm_Ct G yX3_forget cX3_forget 2 none 3 64 0 0 [.ref (ad 4 r)] M (fun v M1 => v = none ∧ ∃ S', Pic G ad nr S' M1 ∧ Fr ad nr M M1 ∧ fgI S S' r (sz + 1)) := by
  refine fm_head (by decide) (Nat.le_of_ble_eq_true rfl) rfl (fun X C N0 rt => ?_)
  refine g_iconst C dX3_forget_0 (v := nI 0) rfl ?_
  refine g_istore_n C dX3_forget_1 (by decide) ?_
  exact l_R_forget (fr := 0) (lo := 0) C hr hI (fun S' M1 ls P1 F1 I1 => rt none M1 _ _ _ ls (fm_retV dX3_forget_25) ⟨rfl, S', P1, F1, I1⟩ (Nat.le_refl _) (Nat.le_refl _)) (sz + 1) 0 S M (by omega) Pi Fr.rf ⟨eqY.rf, fun j hj => absurd hj (Nat.not_lt_zero j)⟩
