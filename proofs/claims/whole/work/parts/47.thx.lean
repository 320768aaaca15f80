/-! THE REFUSED CALLS of LetterCounts -/
def okN (x : Int32) : Prop := ∃ n, n < 5 ∧ x = nI n
def okS (x : Int32) : Prop := ∃ k, k < 9 ∧ x = dn k
def okM (x : Int32) : Prop := ∃ n, n < 8 ∧ x = nI n
theorem okN_no {x : Int32} (h : ¬ okN x) : x < 0 ∨ nI 5 ≤ x := by
  rcases pk_ix x (show 5 < 2 ^ 31 by decide) with z | z | ⟨j, h1, h2⟩
  · exact Or.inl z
  · exact Or.inr z
  · exact absurd ⟨j, h1, h2⟩ h
theorem i_le {x y : Int32} : x ≤ y ↔ x.toInt ≤ y.toInt := Int32.le_iff_toInt_le
theorem i_lt {x y : Int32} : x < y ↔ x.toInt < y.toInt := Int32.lt_iff_toInt_lt
theorem nI8_no {x : Int32} (h : nI 8 ≤ x) : ¬ x ≤ nI 7 := by
  rw [i_le] at h ⊢
  rw [nI_toInt (by decide)] at h ⊢
  omega
theorem okM_no {x : Int32} (h : ¬ okM x) : x < 0 ∨ ¬ x ≤ nI 7 := by
  rcases pk_ix x (show 8 < 2 ^ 31 by decide) with z | z | ⟨j, h1, h2⟩
  · exact Or.inl z
  · exact Or.inr (nI8_no z)
  · exact absurd ⟨j, h1, h2⟩ h
theorem okS_no {x : Int32} (h : ¬ okS x) : x < -1 ∨ ¬ x ≤ nI 7 := by
  rcases pk_ix x (show 8 < 2 ^ 31 by decide) with z | z | ⟨j, h1, h2⟩
  · by_cases hm : x = -1
    · exact absurd ⟨0, by decide, hm⟩ h
    · left
      have e1 : (-1 : Int32).toInt = -1 := by decide
      have e0 : (0 : Int32).toInt = 0 := by decide
      have hne : x.toInt ≠ (-1 : Int32).toInt := fun q => hm (Int32.toInt_inj.mp q)
      rw [i_lt] at z ⊢
      omega
  · exact Or.inr (nI8_no z)
  · exact absurd ⟨j + 1, by omega, h2⟩ h

set_option maxHeartbeats 4000000 in
set_option maxRecDepth 100000 in
theorem x_rqN (G : fm_G) (hT : G.1.stackTraces = false) (M : fm_M) (x : Int32) (hx : ¬ okN x) : fm_CtX G yX5_requireNonterminal cX5_requireNonterminal 1 none 6 82 1 6 [.int x] M eA (fun M1 => M1 = M) := by
  refine fm_headX (by decide) (Nat.le_of_ble_eq_true rfl) rfl (fun X C XX => ?_)
  refine g_iload_n C dX5_requireNonterminal_0 rfl ?_
  refine g_if_lt C dX5_requireNonterminal_1 (tgt := 9) (by decide) (fun hb => ?_) (fun hb => ?_)
  · exact g_throwS C XX hT (fm_wT_of (is := 153) (text := "no such nonterminal") wT_eA (by decide)) dX5_requireNonterminal_9 dX5_requireNonterminal_12 dX5_requireNonterminal_13 dX5_requireNonterminal_15 dX5_requireNonterminal_18 rfl (by decide) (by decide) (by decide) (by decide)
  refine g_iload_n C dX5_requireNonterminal_4 rfl ?_
  refine g_iconst C dX5_requireNonterminal_5 (v := nI 5) rfl ?_
  refine g_icmp_lt C dX5_requireNonterminal_6 (tgt := 19) (by decide) (fun h2 => ?_) (fun h2 => ?_)
  · exact absurd ((okN_no hx).resolve_left hb) (fun z => Int32.lt_irrefl (Int32.lt_of_lt_of_le h2 z))
  · exact g_throwS C XX hT (fm_wT_of (is := 153) (text := "no such nonterminal") wT_eA (by decide)) dX5_requireNonterminal_9 dX5_requireNonterminal_12 dX5_requireNonterminal_13 dX5_requireNonterminal_15 dX5_requireNonterminal_18 rfl (by decide) (by decide) (by decide) (by decide)

set_option maxHeartbeats 4000000 in
set_option maxRecDepth 100000 in
theorem x_rqS (G : fm_G) (hT : G.1.stackTraces = false) (M : fm_M) (x : Int32) (hx : ¬ okS x) : fm_CtX G yX5_requireSymbol cX5_requireSymbol 1 none 6 82 1 6 [.int x] M eA (fun M1 => M1 = M) := by
  refine fm_headX (by decide) (Nat.le_of_ble_eq_true rfl) rfl (fun X C XX => ?_)
  refine g_iload_n C dX5_requireSymbol_0 rfl ?_
  refine g_iconst C dX5_requireSymbol_1 (v := -1) rfl ?_
  refine g_icmp_lt C dX5_requireSymbol_2 (tgt := 11) (by decide) (fun hb => ?_) (fun hb => ?_)
  · exact g_throwS C XX hT (fm_wT_of (is := 155) (text := "no such symbol") wT_eA (by decide)) dX5_requireSymbol_11 dX5_requireSymbol_14 dX5_requireSymbol_15 dX5_requireSymbol_17 dX5_requireSymbol_20 rfl (by decide) (by decide) (by decide) (by decide)
  refine g_iload_n C dX5_requireSymbol_5 rfl ?_
  refine g_bipush C dX5_requireSymbol_6 (v := nI 7) rfl ?_
  refine g_icmp_le C dX5_requireSymbol_8 (tgt := 21) (by decide) (fun h2 => absurd h2 ((okS_no hx).resolve_left hb)) (fun h2 => ?_)
  exact g_throwS C XX hT (fm_wT_of (is := 155) (text := "no such symbol") wT_eA (by decide)) dX5_requireSymbol_11 dX5_requireSymbol_14 dX5_requireSymbol_15 dX5_requireSymbol_17 dX5_requireSymbol_20 rfl (by decide) (by decide) (by decide) (by decide)

set_option maxHeartbeats 4000000 in
set_option maxRecDepth 100000 in
theorem x_rqM (G : fm_G) (hT : G.1.stackTraces = false) (M : fm_M) (x : Int32) (hx : ¬ okM x) : fm_CtX G yX5_requireNumber cX5_requireNumber 1 none 6 82 1 6 [.int x] M eA (fun M1 => M1 = M) := by
  refine fm_headX (by decide) (Nat.le_of_ble_eq_true rfl) rfl (fun X C XX => ?_)
  refine g_iload_n C dX5_requireNumber_0 rfl ?_
  refine g_if_lt C dX5_requireNumber_1 (tgt := 10) (by decide) (fun hb => ?_) (fun hb => ?_)
  · exact g_throwS C XX hT (fm_wT_of (is := 157) (text := "numbers of letters are 0 to 7") wT_eA (by decide)) dX5_requireNumber_10 dX5_requireNumber_13 dX5_requireNumber_14 dX5_requireNumber_16 dX5_requireNumber_19 rfl (by decide) (by decide) (by decide) (by decide)
  refine g_iload_n C dX5_requireNumber_4 rfl ?_
  refine g_bipush C dX5_requireNumber_5 (v := nI 7) rfl ?_
  refine g_icmp_le C dX5_requireNumber_7 (tgt := 20) (by decide) (fun h2 => absurd h2 ((okM_no hx).resolve_left hb)) (fun h2 => ?_)
  exact g_throwS C XX hT (fm_wT_of (is := 157) (text := "numbers of letters are 0 to 7") wT_eA (by decide)) dX5_requireNumber_10 dX5_requireNumber_13 dX5_requireNumber_14 dX5_requireNumber_16 dX5_requireNumber_19 rfl (by decide) (by decide) (by decide) (by decide)

set_option maxHeartbeats 4000000 in
set_option maxRecDepth 100000 in
theorem x_countOf (G : fm_G) (hT : G.1.stackTraces = false) (M : fm_M) (x y z : Int32) (hx : ¬ (okM x ∧ okM y ∧ okM z)) : fm_CtX G yX5_countOf cX5_countOf 3 (some .int) 7 102 1 6 [.int x, .int y, .int z] M eA (fun M1 => M1 = M) := by
  refine fm_headX (by decide) (Nat.le_of_ble_eq_true rfl) rfl (fun X C XX => ?_)
  refine g_iload_n C dX5_countOf_0 rfl ?_
  by_cases h1 : okM x
  rotate_left
  · exact g_outS C XX dX5_countOf_1 cw_X5_159 (x_rqM G hT M x h1) rfl rfl (Nat.le_of_ble_eq_true rfl) (by decide) (by decide) (by decide) (by decide) (fun M1 z => z)
  obtain ⟨n1, h1a, rfl⟩ := h1
  refine g_callS C dX5_countOf_1 cw_X5_159 (c_rqM G M n1 h1a) rfl rfl (Nat.le_of_ble_eq_true rfl) (by decide) (by decide) (by decide) (by decide) (fun v M0 hq => ?_)
  obtain ⟨rfl, hM⟩ := hq
  rw [hM]
  clear hM
  show GW G X 3 _ 0 0 4 _ []
  refine g_iload_n C dX5_countOf_4 rfl ?_
  by_cases h2 : okM y
  rotate_left
  · exact g_outS C XX dX5_countOf_5 cw_X5_159 (x_rqM G hT M y h2) rfl rfl (Nat.le_of_ble_eq_true rfl) (by decide) (by decide) (by decide) (by decide) (fun M1 z => z)
  obtain ⟨n2, h2a, rfl⟩ := h2
  refine g_callS C dX5_countOf_5 cw_X5_159 (c_rqM G M n2 h2a) rfl rfl (Nat.le_of_ble_eq_true rfl) (by decide) (by decide) (by decide) (by decide) (fun v M0 hq => ?_)
  obtain ⟨rfl, hM⟩ := hq
  rw [hM]
  clear hM
  show GW G X 3 _ 0 0 8 _ []
  refine g_iload_n C dX5_countOf_8 rfl ?_
  by_cases h3 : okM z
  · exact absurd ⟨⟨n1, h1a, rfl⟩, ⟨n2, h2a, rfl⟩, h3⟩ hx
  · exact g_outS C XX dX5_countOf_9 cw_X5_159 (x_rqM G hT M z h3) rfl rfl (Nat.le_of_ble_eq_true rfl) (by decide) (by decide) (by decide) (by decide) (fun M1 z => z)

set_option maxHeartbeats 4000000 in
set_option maxRecDepth 100000 in
theorem x_rule (G : fm_G) (hT : G.1.stackTraces = false) (ad : Nat → Nat → Nat) (nr : Nat) (S : Cs) (M : fm_M) (Pi : Pic G ad nr S M) (x b c d e : Int32) (hx : ¬ (okN x ∧ okS b ∧ okS c ∧ okS d ∧ okS e)) : fm_CtX G yX5_rule cX5_rule 7 (some .int) 7 102 1 6 [.ref (ad 7 0), .int x, .int b, .int c, .int d, .int e] M eA (fun M1 => M1 = M) := by
  refine fm_headX (by decide) (Nat.le_of_ble_eq_true rfl) rfl (fun X C XX => ?_)
  refine g_iload_n C dX5_rule_0 rfl ?_
  by_cases h1 : okN x
  rotate_left
  · exact g_outS C XX dX5_rule_1 cw_X5_44 (x_rqN G hT M x h1) rfl rfl (Nat.le_of_ble_eq_true rfl) (by decide) (by decide) (by decide) (by decide) (fun M1 z => z)
  obtain ⟨n1, h1a, rfl⟩ := h1
  refine g_callS C dX5_rule_1 cw_X5_44 (c_rqN G M n1 h1a) rfl rfl (Nat.le_of_ble_eq_true rfl) (by decide) (by decide) (by decide) (by decide) (fun v M0 hq => ?_)
  obtain ⟨rfl, hM⟩ := hq
  rw [hM]
  clear hM
  show GW G X 7 _ 0 0 4 _ []
  refine g_iload_n C dX5_rule_4 rfl ?_
  by_cases hb : okS b
  rotate_left
  · exact g_outS C XX dX5_rule_5 cw_X5_48 (x_rqS G hT M b hb) rfl rfl (Nat.le_of_ble_eq_true rfl) (by decide) (by decide) (by decide) (by decide) (fun M1 z => z)
  obtain ⟨kb, hba, rfl⟩ := hb
  refine g_callS C dX5_rule_5 cw_X5_48 (c_rqS G M kb hba) rfl rfl (Nat.le_of_ble_eq_true rfl) (by decide) (by decide) (by decide) (by decide) (fun v M0 hq => ?_)
  obtain ⟨rfl, hM⟩ := hq
  rw [hM]
  clear hM
  show GW G X 7 _ 0 0 8 _ []
  refine g_iload_n C dX5_rule_8 rfl ?_
  by_cases hc : okS c
  rotate_left
  · exact g_outS C XX dX5_rule_9 cw_X5_48 (x_rqS G hT M c hc) rfl rfl (Nat.le_of_ble_eq_true rfl) (by decide) (by decide) (by decide) (by decide) (fun M1 z => z)
  obtain ⟨kc, hca, rfl⟩ := hc
  refine g_callS C dX5_rule_9 cw_X5_48 (c_rqS G M kc hca) rfl rfl (Nat.le_of_ble_eq_true rfl) (by decide) (by decide) (by decide) (by decide) (fun v M0 hq => ?_)
  obtain ⟨rfl, hM⟩ := hq
  rw [hM]
  clear hM
  show GW G X 7 _ 0 0 12 _ []
  refine g_iload C dX5_rule_12 rfl ?_
  by_cases hd : okS d
  rotate_left
  · exact g_outS C XX dX5_rule_14 cw_X5_48 (x_rqS G hT M d hd) rfl rfl (Nat.le_of_ble_eq_true rfl) (by decide) (by decide) (by decide) (by decide) (fun M1 z => z)
  obtain ⟨kd, hda, rfl⟩ := hd
  refine g_callS C dX5_rule_14 cw_X5_48 (c_rqS G M kd hda) rfl rfl (Nat.le_of_ble_eq_true rfl) (by decide) (by decide) (by decide) (by decide) (fun v M0 hq => ?_)
  obtain ⟨rfl, hM⟩ := hq
  rw [hM]
  clear hM
  show GW G X 7 _ 0 0 17 _ []
  refine g_iload C dX5_rule_17 rfl ?_
  by_cases he : okS e
  rotate_left
  · exact g_outS C XX dX5_rule_19 cw_X5_48 (x_rqS G hT M e he) rfl rfl (Nat.le_of_ble_eq_true rfl) (by decide) (by decide) (by decide) (by decide) (fun M1 z => z)
  obtain ⟨ke, hea, rfl⟩ := he
  refine g_callS C dX5_rule_19 cw_X5_48 (c_rqS G M ke hea) rfl rfl (Nat.le_of_ble_eq_true rfl) (by decide) (by decide) (by decide) (by decide) (fun v M0 hq => ?_)
  obtain ⟨rfl, hM⟩ := hq
  rw [hM]
  clear hM
  show GW G X 7 _ 0 0 22 _ []
  exact absurd ⟨⟨n1, h1a, rfl⟩, ⟨kb, hba, rfl⟩, ⟨kc, hca, rfl⟩, ⟨kd, hda, rfl⟩, ⟨ke, hea, rfl⟩⟩ hx

set_option maxHeartbeats 4000000 in
set_option maxRecDepth 100000 in
theorem x_rule_full (G : fm_G) (hT : G.1.stackTraces = false) (ad : Nat → Nat → Nat) (nr : Nat) (S : Cs) (M : fm_M) (Pi : Pic G ad nr S M) (a : Ab) (ha : AbOk a) (hnr : a.nR ≤ nr) (h : CR a S) (lf : Nat) (f : Nat → Nat) (hlf : lf < 5) (hf : ∀ p, p < 4 → f p < 9) (h10 : a.nR = 10) : fm_CtX G yX5_rule cX5_rule 7 (some .int) 7 102 1 6 [.ref (ad 7 0), .int (nI lf), .int (dn (f 0)), .int (dn (f 1)), .int (dn (f 2)), .int (dn (f 3))] M eS (fun M1 => M1 = M) := by
  have e0 : S.2.2 0 = nI a.nR := h.1.1
  refine fm_headX (by decide) (Nat.le_of_ble_eq_true rfl) rfl (fun X C XX => ?_)
  refine g_iload_n C dX5_rule_0 rfl ?_
  refine g_callS C dX5_rule_1 cw_X5_44 (c_rqN G M lf hlf) rfl rfl (Nat.le_of_ble_eq_true rfl) (by decide) (by decide) (by decide) (by decide) (fun v M0 hq => ?_)
  obtain ⟨rfl, hM⟩ := hq
  rw [hM]
  clear hM
  show GW G X 7 _ 0 0 4 _ []
  refine g_iload_n C dX5_rule_4 rfl ?_
  refine g_callS C dX5_rule_5 cw_X5_48 (c_rqS G M (f 0) (hf 0 (by decide))) rfl rfl (Nat.le_of_ble_eq_true rfl) (by decide) (by decide) (by decide) (by decide) (fun v M0 hq => ?_)
  obtain ⟨rfl, hM⟩ := hq
  rw [hM]
  clear hM
  show GW G X 7 _ 0 0 8 _ []
  refine g_iload_n C dX5_rule_8 rfl ?_
  refine g_callS C dX5_rule_9 cw_X5_48 (c_rqS G M (f 1) (hf 1 (by decide))) rfl rfl (Nat.le_of_ble_eq_true rfl) (by decide) (by decide) (by decide) (by decide) (fun v M0 hq => ?_)
  obtain ⟨rfl, hM⟩ := hq
  rw [hM]
  clear hM
  show GW G X 7 _ 0 0 12 _ []
  refine g_iload C dX5_rule_12 rfl ?_
  refine g_callS C dX5_rule_14 cw_X5_48 (c_rqS G M (f 2) (hf 2 (by decide))) rfl rfl (Nat.le_of_ble_eq_true rfl) (by decide) (by decide) (by decide) (by decide) (fun v M0 hq => ?_)
  obtain ⟨rfl, hM⟩ := hq
  rw [hM]
  clear hM
  show GW G X 7 _ 0 0 17 _ []
  refine g_iload C dX5_rule_17 rfl ?_
  refine g_callS C dX5_rule_19 cw_X5_48 (c_rqS G M (f 3) (hf 3 (by decide))) rfl rfl (Nat.le_of_ble_eq_true rfl) (by decide) (by decide) (by decide) (by decide) (fun v M0 hq => ?_)
  obtain ⟨rfl, hM⟩ := hq
  rw [hM]
  clear hM
  show GW G X 7 _ 0 0 22 _ []
  refine g_aload_n C dX5_rule_22 rfl ?_
  refine g_getf C fl_X5_21 dX5_rule_23 Pi.klc rfl ?_
  rw [e0, h10]
  refine g_bipush C dX5_rule_26 (v := nI 10) rfl ?_
  refine g_icmp_ltN C dX5_rule_28 (tgt := 41) (by decide) (by decide) (by decide) (fun hb => absurd hb (by decide)) (fun hb => ?_)
  exact g_throwS C XX hT (fm_wT_of (is := 53) (text := "there are ten rules") wT_eS (by decide)) dX5_rule_31 dX5_rule_34 dX5_rule_35 dX5_rule_37 dX5_rule_40 rfl (by decide) (by decide) (by decide) (by decide)

set_option maxHeartbeats 4000000 in
set_option maxRecDepth 100000 in
theorem x_height_n (G : fm_G) (hT : G.1.stackTraces = false) (ad : Nat → Nat → Nat) (nr : Nat) (S : Cs) (M : fm_M) (Pi : Pic G ad nr S M) (x b c d : Int32) (hx : ¬ okN x) : fm_CtX G yX5_height cX5_height 7 (some .int) 7 102 1 6 [.ref (ad 7 0), .int x, .int b, .int c, .int d] M eA (fun M1 => M1 = M) := by
  refine fm_headX (by decide) (Nat.le_of_ble_eq_true rfl) rfl (fun X C XX => ?_)
  refine g_iload_n C dX5_height_0 rfl ?_
  exact g_outS C XX dX5_height_1 cw_X5_44 (x_rqN G hT M x hx) rfl rfl (Nat.le_of_ble_eq_true rfl) (by decide) (by decide) (by decide) (by decide) (fun M1 z => z)

set_option maxHeartbeats 4000000 in
set_option maxRecDepth 100000 in
theorem x_many_n (G : fm_G) (hT : G.1.stackTraces = false) (ad : Nat → Nat → Nat) (nr : Nat) (S : Cs) (M : fm_M) (Pi : Pic G ad nr S M) (x  : Int32) (hx : ¬ okN x) : fm_CtX G yX5_many cX5_many 2 (some .int) 7 102 1 6 [.ref (ad 7 0), .int x] M eA (fun M1 => M1 = M) := by
  refine fm_headX (by decide) (Nat.le_of_ble_eq_true rfl) rfl (fun X C XX => ?_)
  refine g_iload_n C dX5_many_0 rfl ?_
  exact g_outS C XX dX5_many_1 cw_X5_44 (x_rqN G hT M x hx) rfl rfl (Nat.le_of_ble_eq_true rfl) (by decide) (by decide) (by decide) (by decide) (fun M1 z => z)

set_option maxHeartbeats 4000000 in
set_option maxRecDepth 100000 in
theorem x_count_n (G : fm_G) (hT : G.1.stackTraces = false) (ad : Nat → Nat → Nat) (nr : Nat) (S : Cs) (M : fm_M) (Pi : Pic G ad nr S M) (x b : Int32) (hx : ¬ okN x) : fm_CtX G yX5_count cX5_count 4 (some .int) 7 102 1 6 [.ref (ad 7 0), .int x, .int b] M eA (fun M1 => M1 = M) := by
  refine fm_headX (by decide) (Nat.le_of_ble_eq_true rfl) rfl (fun X C XX => ?_)
  refine g_iload_n C dX5_count_0 rfl ?_
  exact g_outS C XX dX5_count_1 cw_X5_44 (x_rqN G hT M x hx) rfl rfl (Nat.le_of_ble_eq_true rfl) (by decide) (by decide) (by decide) (by decide) (fun M1 z => z)

set_option maxHeartbeats 4000000 in
set_option maxRecDepth 100000 in
theorem x_derive_n (G : fm_G) (hT : G.1.stackTraces = false) (ad : Nat → Nat → Nat) (nr : Nat) (S : Cs) (M : fm_M) (Pi : Pic G ad nr S M) (x b c d : Int32) (hx : ¬ okN x) : fm_CtX G yX5_derive cX5_derive 7 (some .int) 7 102 1 6 [.ref (ad 7 0), .int x, .int b, .int c, .int d] M eA (fun M1 => M1 = M) := by
  refine fm_headX (by decide) (Nat.le_of_ble_eq_true rfl) rfl (fun X C XX => ?_)
  refine g_iload_n C dX5_derive_0 rfl ?_
  exact g_outS C XX dX5_derive_1 cw_X5_44 (x_rqN G hT M x hx) rfl rfl (Nat.le_of_ble_eq_true rfl) (by decide) (by decide) (by decide) (by decide) (fun M1 z => z)

set_option maxHeartbeats 4000000 in
set_option maxRecDepth 100000 in
theorem x_fit_n (G : fm_G) (hT : G.1.stackTraces = false) (ad : Nat → Nat → Nat) (nr : Nat) (S : Cs) (M : fm_M) (Pi : Pic G ad nr S M) (x  : Int32) (hx : ¬ okN x) : fm_CtX G yX5_fit cX5_fit 4 (some .int) 7 102 1 6 [.ref (ad 7 0), .int x] M eA (fun M1 => M1 = M) := by
  refine fm_headX (by decide) (Nat.le_of_ble_eq_true rfl) rfl (fun X C XX => ?_)
  refine g_iload_n C dX5_fit_0 rfl ?_
  exact g_outS C XX dX5_fit_1 cw_X5_44 (x_rqN G hT M x hx) rfl rfl (Nat.le_of_ble_eq_true rfl) (by decide) (by decide) (by decide) (by decide) (fun M1 z => z)

set_option maxHeartbeats 4000000 in
set_option maxRecDepth 100000 in
theorem x_height_c (G : fm_G) (hT : G.1.stackTraces = false) (ad : Nat → Nat → Nat) (nr : Nat) (S : Cs) (M : fm_M) (Pi : Pic G ad nr S M) (n : Nat) (b c d : Int32) (hn : n < 5) (hx : ¬ (okM b ∧ okM c ∧ okM d)) : fm_CtX G yX5_height cX5_height 7 (some .int) 8 124 1 6 [.ref (ad 7 0), .int (nI n), .int b, .int c, .int d] M eA (fun M1 => M1 = M) := by
  refine fm_headX (by decide) (Nat.le_of_ble_eq_true rfl) rfl (fun X C XX => ?_)
  refine g_iload_n C dX5_height_0 rfl ?_
  refine g_callS C dX5_height_1 cw_X5_44 (c_rqN G M n hn) rfl rfl (Nat.le_of_ble_eq_true rfl) (by decide) (by decide) (by decide) (by decide) (fun v M0 hq => ?_)
  obtain ⟨rfl, hM⟩ := hq
  rw [hM]
  clear hM
  show GW G X 7 _ 0 0 4 _ []
  refine g_iload_n C dX5_height_4 rfl ?_
  refine g_iload_n C dX5_height_5 rfl ?_
  refine g_iload C dX5_height_6 rfl ?_
  exact g_outS C XX dX5_height_8 cw_X5_68 (x_countOf G hT M b c d hx) rfl rfl (Nat.le_of_ble_eq_true rfl) (by decide) (by decide) (by decide) (by decide) (fun M1 z => z)

set_option maxHeartbeats 4000000 in
set_option maxRecDepth 100000 in
theorem x_derive_c (G : fm_G) (hT : G.1.stackTraces = false) (ad : Nat → Nat → Nat) (nr : Nat) (S : Cs) (M : fm_M) (Pi : Pic G ad nr S M) (n : Nat) (b c d : Int32) (hn : n < 5) (hx : ¬ (okM b ∧ okM c ∧ okM d)) : fm_CtX G yX5_derive cX5_derive 7 (some .int) 8 124 1 6 [.ref (ad 7 0), .int (nI n), .int b, .int c, .int d] M eA (fun M1 => M1 = M) := by
  refine fm_headX (by decide) (Nat.le_of_ble_eq_true rfl) rfl (fun X C XX => ?_)
  refine g_iload_n C dX5_derive_0 rfl ?_
  refine g_callS C dX5_derive_1 cw_X5_44 (c_rqN G M n hn) rfl rfl (Nat.le_of_ble_eq_true rfl) (by decide) (by decide) (by decide) (by decide) (fun v M0 hq => ?_)
  obtain ⟨rfl, hM⟩ := hq
  rw [hM]
  clear hM
  show GW G X 7 _ 0 0 4 _ []
  refine g_iload_n C dX5_derive_4 rfl ?_
  refine g_iload_n C dX5_derive_5 rfl ?_
  refine g_iload C dX5_derive_6 rfl ?_
  exact g_outS C XX dX5_derive_8 cw_X5_68 (x_countOf G hT M b c d hx) rfl rfl (Nat.le_of_ble_eq_true rfl) (by decide) (by decide) (by decide) (by decide) (fun M1 z => z)

set_option maxHeartbeats 4000000 in
set_option maxRecDepth 100000 in
theorem x_count_k (G : fm_G) (hT : G.1.stackTraces = false) (ad : Nat → Nat → Nat) (nr : Nat) (S : Cs) (M : fm_M) (Pi : Pic G ad nr S M) (a : Ab) (ha : AbOk a) (hnr : a.nR ≤ nr) (h : CR a S) (n : Nat) (k : Int32) (hn : n < 5) (hk : ¬ ∃ j, j < mny (gO a) n 512 ∧ k = nI j) : fm_CtX G yX5_count cX5_count 4 (some .int) 6 143 1 6 [.ref (ad 7 0), .int (nI n), .int k] M eB (fun M1 => ∃ S', Pic G ad nr S' M1 ∧ Fr ad nr M M1 ∧ CR a S') := by
  have hl : 3 * n < 15 + 10 * nr := by omega
  have hk5 : mny (gO a) n 512 ≤ 512 := cntq_le _ _
  refine fm_headX (by decide) (Nat.le_of_ble_eq_true rfl) rfl (fun X C XX => ?_)
  refine g_iload_n C dX5_count_0 rfl ?_
  refine g_callS C dX5_count_1 cw_X5_44 (c_rqN G M n hn) rfl rfl (Nat.le_of_ble_eq_true rfl) (by decide) (by decide) (by decide) (by decide) (fun v M0 hq => ?_)
  obtain ⟨rfl, hM⟩ := hq
  rw [hM]
  clear hM
  show GW G X 4 _ 0 0 4 _ []
  refine g_aload_n C dX5_count_4 rfl ?_
  refine g_callV (ci := 5) C dX5_count_5 cw_X5_72 rfl (c_workOut G ad nr S _ Pi a ha hnr h) Pi.klc rfl rfl (Nat.le_of_ble_eq_true rfl) (by decide) (by decide) (by decide) (by decide) (fun v M1 hq => ?_)
  obtain ⟨rfl, S1, P1, F1, R1, w1⟩ := hq
  show GW G X 4 M1 0 0 8 _ []
  have e : cntg (S1.1 (3 * n)) = mny (gO a) n 512 := wk_cnt w1 hn (Nat.le_refl _)
  refine g_aload_n C dX5_count_8 rfl ?_
  refine g_getf C fl_X5_11 dX5_count_9 P1.klc rfl ?_
  refine g_iload_n C dX5_count_12 rfl ?_
  refine g_aaldN C dX5_count_13 P1.knts rfl hn (by decide) (knts_at hn) ?_
  refine g_getf C fl_X5_79 dX5_count_14 (P1.knt hn) rfl ?_
  refine g_astore_n C dX5_count_17 (by decide) ?_
  refine g_iload_n C dX5_count_18 rfl ?_
  refine g_if_lt C dX5_count_19 (tgt := 30) (by decide) (fun hb => ?_) (fun hb => ?_)
  · exact g_throwS C XX hT (fm_wT_of (is := 91) (text := "no such count") wT_eB (by decide)) dX5_count_30 dX5_count_33 dX5_count_34 dX5_count_36 dX5_count_39 ⟨S1, P1, F1, R1⟩ (by decide) (by decide) (by decide) (by decide)
  refine g_iload_n C dX5_count_22 rfl ?_
  refine g_aload_n C dX5_count_23 rfl ?_
  refine g_callV (ci := 0) C dX5_count_24 cw_X5_83 rfl (c_size G _ _ M1 _ (P1.kset hl) (P1.kpl hl)) (P1.kset hl) rfl rfl (Nat.le_of_ble_eq_true rfl) (by decide) (by decide) (by decide) (by decide) (fun v M2 hq => ?_)
  obtain ⟨rfl, rfl⟩ := hq
  show GW G X 4 M2 0 0 27 _ (.int (nI (cntg (S1.1 (3 * n)))) :: .int k :: [])
  rw [e]
  refine g_icmp_lt C dX5_count_27 (tgt := 40) (by decide) (fun h2 => ?_) (fun h2 => ?_)
  · rcases pk_ix k (show mny (gO a) n 512 < 2 ^ 31 by omega) with z | z | z
    · exact absurd z hb
    · exact absurd (Int32.lt_of_lt_of_le h2 z) (Int32.lt_irrefl)
    · exact absurd z hk
  · exact g_throwS C XX hT (fm_wT_of (is := 91) (text := "no such count") wT_eB (by decide)) dX5_count_30 dX5_count_33 dX5_count_34 dX5_count_36 dX5_count_39 ⟨S1, P1, F1, R1⟩ (by decide) (by decide) (by decide) (by decide)

set_option maxHeartbeats 4000000 in
set_option maxRecDepth 100000 in
theorem x_derive_N (G : fm_G) (hT : G.1.stackTraces = false) (ad : Nat → Nat → Nat) (nr : Nat) (S : Cs) (M : fm_M) (Pi : Pic G ad nr S M) (a : Ab) (ha : AbOk a) (hnr : a.nR ≤ nr) (h : CR a S) (n x y z : Nat) (hn : n < 5) (hx : x < 8) (hy : y < 8) (hz : z < 8) (hNT : ¬ Tr (gO a) n (x + 8 * y + 64 * z)) : fm_CtX G yX5_derive cX5_derive 7 (some .int) 6 143 1 6 [.ref (ad 7 0), .int (nI n), .int (nI x), .int (nI y), .int (nI z)] M eN (fun M1 => ∃ S', Pic G ad nr S' M1 ∧ Fr ad nr M M1 ∧ CR a S') := by
  have hc : x + 8 * y + 64 * z < 512 := by omega
  have hl : 3 * n < 15 + 10 * nr := by omega
  refine fm_headX (by decide) (Nat.le_of_ble_eq_true rfl) rfl (fun X C XX => ?_)
  refine g_iload_n C dX5_derive_0 rfl ?_
  refine g_callS C dX5_derive_1 cw_X5_44 (c_rqN G M n hn) rfl rfl (Nat.le_of_ble_eq_true rfl) (by decide) (by decide) (by decide) (by decide) (fun v M0 hq => ?_)
  obtain ⟨rfl, hM⟩ := hq
  rw [hM]
  clear hM
  show GW G X 7 _ 0 0 4 _ []
  refine g_iload_n C dX5_derive_4 rfl ?_
  refine g_iload_n C dX5_derive_5 rfl ?_
  refine g_iload C dX5_derive_6 rfl ?_
  refine g_callS C dX5_derive_8 cw_X5_68 (c_countOf G M x y z hx hy hz) rfl rfl (Nat.le_of_ble_eq_true rfl) (by decide) (by decide) (by decide) (by decide) (fun v M0 hq => ?_)
  obtain ⟨rfl, hM⟩ := hq
  rw [hM]
  clear hM
  show GW G X 7 _ 0 0 11 _ [.int (nI (x + 8 * y + 64 * z))]
  refine g_istore C dX5_derive_11 (by decide) ?_
  refine g_aload_n C dX5_derive_13 rfl ?_
  refine g_callV (ci := 5) C dX5_derive_14 cw_X5_72 rfl (c_workOut G ad nr S _ Pi a ha hnr h) Pi.klc rfl rfl (Nat.le_of_ble_eq_true rfl) (by decide) (by decide) (by decide) (by decide) (fun v M1 hq => ?_)
  obtain ⟨rfl, S1, P1, F1, R1, w1⟩ := hq
  show GW G X 7 M1 0 0 17 _ []
  generalize hcc : x + 8 * y + 64 * z = c at *
  refine g_aload_n C dX5_derive_17 rfl ?_
  refine g_getf C fl_X5_11 dX5_derive_18 P1.klc rfl ?_
  refine g_iload_n C dX5_derive_21 rfl ?_
  refine g_aaldN C dX5_derive_22 P1.knts rfl hn (by decide) (knts_at hn) ?_
  refine g_getf C fl_X5_79 dX5_derive_23 (P1.knt hn) rfl ?_
  refine g_iload C dX5_derive_26 rfl ?_
  refine g_callV (ci := 0) C dX5_derive_28 cw_X5_98 rfl (c_holds G _ _ M1 _ (P1.kset hl) (P1.kpl hl) c hc) (P1.kset hl) rfl rfl (Nat.le_of_ble_eq_true rfl) (by decide) (by decide) (by decide) (by decide) (fun v M2 hq => ?_)
  obtain ⟨rfl, rfl⟩ := hq
  show GW G X 7 M2 0 0 31 _ [.int (bI (bq (S1.1 (3 * n)) c))]
  have hbf : bq (S1.1 (3 * n)) c = false := by
    cases hq : bq (S1.1 (3 * n)) c with
    | false => rfl
    | true => exact absurd ((wk_had w1 hn hc).mp hq) hNT
  rw [hbf]
  refine g_if_ne C dX5_derive_31 (tgt := 44) (by decide) (fun h0 => absurd (by decide) h0) (fun h0 => ?_)
  exact g_throwN C XX hT dX5_derive_34 dX5_derive_37 dX5_derive_38 dX5_derive_40 dX5_derive_43 ⟨S1, P1, F1, R1⟩ (by decide) (by decide) (by decide) (by decide)

set_option maxHeartbeats 4000000 in
set_option maxRecDepth 100000 in
theorem x_derive_U (G : fm_G) (hT : G.1.stackTraces = false) (ad : Nat → Nat → Nat) (nr : Nat) (S : Cs) (M : fm_M) (Pi : Pic G ad nr S M) (a : Ab) (ha : AbOk a) (hnr : a.nR ≤ nr) (h : CR a S) (n x y z : Nat) (hn : n < 5) (hx : x < 8) (hy : y < 8) (hz : z < 8) (hTr : Tr (gO a) n (x + 8 * y + 64 * z)) (hG : ¬ ∃ T, Gd (gO a) n (x + 8 * y + 64 * z) T) : fm_CtX G yX5_derive cX5_derive 7 (some .int) 6 143 1 6 [.ref (ad 7 0), .int (nI n), .int (nI x), .int (nI y), .int (nI z)] M eU (fun M1 => ∃ S', Pic G ad nr S' M1 ∧ Fr ad nr M M1 ∧ CR a S') := by
  have hc : x + 8 * y + 64 * z < 512 := by omega
  have hl : 3 * n < 15 + 10 * nr := by omega
  refine fm_headX (by decide) (Nat.le_of_ble_eq_true rfl) rfl (fun X C XX => ?_)
  refine g_iload_n C dX5_derive_0 rfl ?_
  refine g_callS C dX5_derive_1 cw_X5_44 (c_rqN G M n hn) rfl rfl (Nat.le_of_ble_eq_true rfl) (by decide) (by decide) (by decide) (by decide) (fun v M0 hq => ?_)
  obtain ⟨rfl, hM⟩ := hq
  rw [hM]
  clear hM
  show GW G X 7 _ 0 0 4 _ []
  refine g_iload_n C dX5_derive_4 rfl ?_
  refine g_iload_n C dX5_derive_5 rfl ?_
  refine g_iload C dX5_derive_6 rfl ?_
  refine g_callS C dX5_derive_8 cw_X5_68 (c_countOf G M x y z hx hy hz) rfl rfl (Nat.le_of_ble_eq_true rfl) (by decide) (by decide) (by decide) (by decide) (fun v M0 hq => ?_)
  obtain ⟨rfl, hM⟩ := hq
  rw [hM]
  clear hM
  show GW G X 7 _ 0 0 11 _ [.int (nI (x + 8 * y + 64 * z))]
  refine g_istore C dX5_derive_11 (by decide) ?_
  refine g_aload_n C dX5_derive_13 rfl ?_
  refine g_callV (ci := 5) C dX5_derive_14 cw_X5_72 rfl (c_workOut G ad nr S _ Pi a ha hnr h) Pi.klc rfl rfl (Nat.le_of_ble_eq_true rfl) (by decide) (by decide) (by decide) (by decide) (fun v M1 hq => ?_)
  obtain ⟨rfl, S1, P1, F1, R1, w1⟩ := hq
  show GW G X 7 M1 0 0 17 _ []
  generalize hcc : x + 8 * y + 64 * z = c at *
  refine g_aload_n C dX5_derive_17 rfl ?_
  refine g_getf C fl_X5_11 dX5_derive_18 P1.klc rfl ?_
  refine g_iload_n C dX5_derive_21 rfl ?_
  refine g_aaldN C dX5_derive_22 P1.knts rfl hn (by decide) (knts_at hn) ?_
  refine g_getf C fl_X5_79 dX5_derive_23 (P1.knt hn) rfl ?_
  refine g_iload C dX5_derive_26 rfl ?_
  refine g_callV (ci := 0) C dX5_derive_28 cw_X5_98 rfl (c_holds G _ _ M1 _ (P1.kset hl) (P1.kpl hl) c hc) (P1.kset hl) rfl rfl (Nat.le_of_ble_eq_true rfl) (by decide) (by decide) (by decide) (by decide) (fun v M2 hq => ?_)
  obtain ⟨rfl, rfl⟩ := hq
  show GW G X 7 M2 0 0 31 _ [.int (bI (bq (S1.1 (3 * n)) c))]
  rw [(wk_had w1 hn hc).mpr hTr]
  refine g_if_ne C dX5_derive_31 (tgt := 44) (by decide) (fun h0 => ?_) (fun h0 => absurd h0 (by decide))
  refine g_aload_n C dX5_derive_44 rfl ?_
  refine g_getf C fl_X5_39 dX5_derive_45 P1.klc rfl ?_
  refine g_aload_n C dX5_derive_48 rfl ?_
  refine g_getf C fl_X5_11 dX5_derive_49 P1.klc rfl ?_
  refine g_aload_n C dX5_derive_52 rfl ?_
  refine g_getf C fl_X5_17 dX5_derive_53 P1.klc rfl ?_
  refine g_iload_n C dX5_derive_56 rfl ?_
  refine g_iload C dX5_derive_57 rfl ?_
  refine g_callV (ci := 4) C dX5_derive_59 cw_X5_107 rfl (c_through G ad nr S1 M2 P1 (gO a) n c (gO_ok ha) hnr R1.1 w1 hTr) P1.kwk rfl rfl (Nat.le_of_ble_eq_true rfl) (by decide) (by decide) (by decide) (by decide) (fun v M3 hq => ?_)
  obtain ⟨b, S3, rfl, P3, F3, T3, b3, b4⟩ := hq
  have hb : b = false := by
    cases b with
    | false => rfl
    | true => exact absurd ((b3 rfl).elim (fun T z => ⟨T, z.1⟩)) hG
  subst hb
  show GW G X 7 M3 0 0 62 _ [.int (bI false)]
  refine g_if_ne C dX5_derive_62 (tgt := 75) (by decide) (fun h0 => absurd (by decide) h0) (fun h0 => ?_)
  exact g_throwS C XX hT (fm_wT_of (is := 113) (text := "the tree is too large") wT_eU (by decide)) dX5_derive_65 dX5_derive_68 dX5_derive_69 dX5_derive_71 dX5_derive_74 ⟨S3, P3, F1.tr F3, R1.T ha T3⟩ (by decide) (by decide) (by decide) (by decide)

set_option maxHeartbeats 4000000 in
set_option maxRecDepth 100000 in
theorem x_step (G : fm_G) (hT : G.1.stackTraces = false) (ad : Nat → Nat → Nat) (nr : Nat) (S : Cs) (M : fm_M) (Pi : Pic G ad nr S M) (a : Ab) (ha : AbOk a) (hnr : a.nR ≤ nr) (h : CR a S) (k : Int32) (hk : ¬ ∃ j, j < a.st ∧ k = nI j) : fm_CtX G yX5_step cX5_step 2 (some .int) 6 82 1 6 [.ref (ad 7 0), .int k] M eB (fun M1 => M1 = M) := by
  have h5 := ha.2.2
  obtain ⟨h1, h2, h3, h4, -⟩ := h
  refine fm_headX (by decide) (Nat.le_of_ble_eq_true rfl) rfl (fun X C XX => ?_)
  refine g_iload_n C dX5_step_0 rfl ?_
  refine g_if_lt C dX5_step_1 (tgt := 12) (by decide) (fun hb => ?_) (fun hb => ?_)
  · exact g_throwS C XX hT (fm_wT_of (is := 130) (text := "no such step") wT_eB (by decide)) dX5_step_12 dX5_step_15 dX5_step_16 dX5_step_18 dX5_step_21 rfl (by decide) (by decide) (by decide) (by decide)
  refine g_iload_n C dX5_step_4 rfl ?_
  refine g_aload_n C dX5_step_5 rfl ?_
  refine g_getf C fl_X5_33 dX5_step_6 Pi.klc rfl ?_
  rw [h3]
  refine g_icmp_lt C dX5_step_9 (tgt := 22) (by decide) (fun h2 => ?_) (fun h2 => ?_)
  · rcases pk_ix k (show a.st < 2 ^ 31 by omega) with z | z | z
    · exact absurd z hb
    · exact absurd (Int32.lt_of_lt_of_le h2 z) (Int32.lt_irrefl)
    · exact absurd z hk
  · exact g_throwS C XX hT (fm_wT_of (is := 130) (text := "no such step") wT_eB (by decide)) dX5_step_12 dX5_step_15 dX5_step_16 dX5_step_18 dX5_step_21 rfl (by decide) (by decide) (by decide) (by decide)

set_option maxHeartbeats 4000000 in
set_option maxRecDepth 100000 in
theorem le50 {m : Int32} (h0 : ¬ m < 0) (h : m ≤ nI 50) : ∃ j, j < 51 ∧ m = nI j := by
  rcases pk_ix m (show 51 < 2 ^ 31 by decide) with z | z | z
  · exact absurd z h0
  · rw [i_le, nI_toInt (by decide)] at h z
    omega
  · exact z
set_option maxHeartbeats 4000000 in
set_option maxRecDepth 100000 in
theorem x_use (G : fm_G) (hT : G.1.stackTraces = false) (ad : Nat → Nat → Nat) (nr : Nat) (S : Cs) (M : fm_M) (Pi : Pic G ad nr S M) (a : Ab) (ha : AbOk a) (hnr : a.nR ≤ nr) (h : CR a S) (r m : Int32) (hk : ¬ ((∃ j, j < a.nR ∧ r = nI j) ∧ ∃ j, j < 51 ∧ m = nI j)) : fm_CtX G yX5_use cX5_use 4 (some .int) 6 82 1 6 [.ref (ad 7 0), .int r, .int m] M eA (fun M1 => M1 = M) := by
  have h10 := ha.1
  have e0 : S.2.2 0 = nI a.nR := h.1.1
  refine fm_headX (by decide) (Nat.le_of_ble_eq_true rfl) rfl (fun X C XX => ?_)
  refine g_iload_n C dX5_use_0 rfl ?_
  refine g_if_lt C dX5_use_1 (tgt := 12) (by decide) (fun hb => ?_) (fun hb => ?_)
  · exact g_throwS C XX hT (fm_wT_of (is := 134) (text := "no such rule") wT_eA (by decide)) dX5_use_12 dX5_use_15 dX5_use_16 dX5_use_18 dX5_use_21 rfl (by decide) (by decide) (by decide) (by decide)
  refine g_iload_n C dX5_use_4 rfl ?_
  refine g_aload_n C dX5_use_5 rfl ?_
  refine g_getf C fl_X5_21 dX5_use_6 Pi.klc rfl ?_
  rw [e0]
  refine g_icmp_lt C dX5_use_9 (tgt := 22) (by decide) (fun h2 => ?_) (fun h2 => ?_)
  · have hr : ∃ j, j < a.nR ∧ r = nI j := by
      rcases pk_ix r (show a.nR < 2 ^ 31 by omega) with z | z | z
      · exact absurd z hb
      · exact absurd (Int32.lt_of_lt_of_le h2 z) (Int32.lt_irrefl)
      · exact z
    refine g_iload_n C dX5_use_22 rfl ?_
    refine g_if_lt C dX5_use_23 (tgt := 32) (by decide) (fun h3 => ?_) (fun h3 => ?_)
    · exact g_throwS C XX hT (fm_wT_of (is := 137) (text := "uses are 0 to 50") wT_eA (by decide)) dX5_use_32 dX5_use_35 dX5_use_36 dX5_use_38 dX5_use_41 rfl (by decide) (by decide) (by decide) (by decide)
    refine g_iload_n C dX5_use_26 rfl ?_
    refine g_bipush C dX5_use_27 (v := nI 50) rfl ?_
    refine g_icmp_le C dX5_use_29 (tgt := 42) (by decide) (fun h4 => absurd ⟨hr, le50 h3 h4⟩ hk) (fun h4 => ?_)
    exact g_throwS C XX hT (fm_wT_of (is := 137) (text := "uses are 0 to 50") wT_eA (by decide)) dX5_use_32 dX5_use_35 dX5_use_36 dX5_use_38 dX5_use_41 rfl (by decide) (by decide) (by decide) (by decide)
  · exact g_throwS C XX hT (fm_wT_of (is := 134) (text := "no such rule") wT_eA (by decide)) dX5_use_12 dX5_use_15 dX5_use_16 dX5_use_18 dX5_use_21 rfl (by decide) (by decide) (by decide) (by decide)

set_option maxHeartbeats 4000000 in
set_option maxRecDepth 100000 in
theorem x_letters (G : fm_G) (hT : G.1.stackTraces = false) (ad : Nat → Nat → Nat) (nr : Nat) (S : Cs) (M : fm_M) (Pi : Pic G ad nr S M) (l : Int32) (hk : ¬ ∃ j, j < 3 ∧ l = nI j) : fm_CtX G yX5_letters cX5_letters 4 (some .int) 6 82 1 6 [.ref (ad 7 0), .int l] M eA (fun M1 => M1 = M) := by
  refine fm_headX (by decide) (Nat.le_of_ble_eq_true rfl) rfl (fun X C XX => ?_)
  refine g_iload_n C dX5_letters_0 rfl ?_
  refine g_if_lt C dX5_letters_1 (tgt := 9) (by decide) (fun hb => ?_) (fun hb => ?_)
  · exact g_throwS C XX hT (fm_wT_of (is := 148) (text := "no such letter") wT_eA (by decide)) dX5_letters_9 dX5_letters_12 dX5_letters_13 dX5_letters_15 dX5_letters_18 rfl (by decide) (by decide) (by decide) (by decide)
  refine g_iload_n C dX5_letters_4 rfl ?_
  refine g_iconst C dX5_letters_5 (v := nI 3) rfl ?_
  refine g_icmp_lt C dX5_letters_6 (tgt := 19) (by decide) (fun h2 => ?_) (fun h2 => ?_)
  · rcases pk_ix l (show 3 < 2 ^ 31 by omega) with z | z | z
    · exact absurd z hb
    · exact absurd (Int32.lt_of_lt_of_le h2 z) (Int32.lt_irrefl)
    · exact absurd z hk
  · exact g_throwS C XX hT (fm_wT_of (is := 148) (text := "no such letter") wT_eA (by decide)) dX5_letters_9 dX5_letters_12 dX5_letters_13 dX5_letters_15 dX5_letters_18 rfl (by decide) (by decide) (by decide) (by decide)

