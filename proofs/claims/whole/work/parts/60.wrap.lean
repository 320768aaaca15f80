/-! THE WRAPPERS of the law: the class's answer, or the number of what it threw -/
theorem lk_L_13 : Cond.classLink RL 13 eA ∈ fm_tbl := fm_in (by decide +kernel) rfl
theorem lk_L_15 : Cond.classLink RL 15 eS ∈ fm_tbl := fm_in (by decide +kernel) rfl
theorem lk_L_29 : Cond.classLink RL 29 eB ∈ fm_tbl := fm_in (by decide +kernel) rfl
theorem lk_L_34 : Cond.classLink RL 34 eN ∈ fm_tbl := fm_in (by decide +kernel) rfl
theorem lk_L_36 : Cond.classLink RL 36 eU ∈ fm_tbl := fm_in (by decide +kernel) rfl
abbrev hL_rule : List (Nat × Nat × Nat × Nat) := [(0, 16, 19, 13), (0, 16, 23, 15)]
set_option maxHeartbeats 4000000 in
set_option maxRecDepth 100000 in
theorem w_rule {G : fm_G} {M : fm_M} {b o fr1 lo1 mc ms : Nat} {fs : List Value} {p0 p1 p2 p3 p4 : Int32} {post : Option Value → fm_M → Prop} (K : fm_Ct G yX5_rule cX5_rule 7 (some .int) fr1 lo1 mc ms [.ref b, .int p0, .int p1, .int p2, .int p3, .int p4] M post) (hM : M b = some (fm_O 5 fs)) (hp0 : ∀ v M1, post v M1 → (∃ i : Int32, v = some (.int i)) ∧ ∃ f, M1 o = some (fm_L G 1 f)) (hfr : fr1 + 1 ≤ 9) (hlo : 8 + (7 + 11) + lo1 ≤ 200) :
    fm_CtW G yL_rule cL_rule 8 (some .int) hL_rule 9 200 mc ms [.ref b, .int p0, .int p1, .int p2, .int p3, .int p4, .ref o] M (fun v M1 => v = some (.int (nI 0)) ∧ ∃ (i : Int32) (M0 : fm_M) (f : Nat → Int64), post (some (.int i)) M0 ∧ M0 o = some (fm_L G 1 f) ∧ M1 = fm_set M0 o (fm_L G 1 (vp_updL f 0 i.toInt64))) := by
  refine fm_headW (by decide) (Nat.le_of_ble_eq_true rfl) rfl (fun X C HX rt => ?_)
  refine g_aload C dL_rule_0 rfl ?_
  refine g_iconst C dL_rule_2 (v := nI 0) rfl ?_
  refine g_aload_n C dL_rule_3 rfl ?_
  refine g_iload_n C dL_rule_4 rfl ?_
  refine g_iload_n C dL_rule_5 rfl ?_
  refine g_iload_n C dL_rule_6 rfl ?_
  refine g_iload C dL_rule_7 rfl ?_
  refine g_iload C dL_rule_9 rfl ?_
  refine g_callV C dL_rule_11 cw_L_7 rfl K hM rfl rfl (Nat.le_of_ble_eq_true rfl) hfr hlo (by omega) (by omega) (fun v M1 hp => ?_)
  obtain ⟨⟨i, rfl⟩, f, hf⟩ := hp0 v M1 hp
  refine g_i2l C dL_rule_14 ?_
  refine g_lastN C dL_rule_15 hf (by decide) (by decide) ?_
  refine g_goto C dL_rule_16 (tgt := 27) (by decide) ?_
  refine g_iconst C dL_rule_27 (v := nI 0) rfl ?_
  exact rt (some (.int (nI 0))) _ _ _ _ _ (fm_retI dL_rule_28) ⟨rfl, i, M1, f, hp, hf, rfl⟩ (by omega) (by omega)
set_option maxHeartbeats 4000000 in
set_option maxRecDepth 100000 in
theorem w_rule_A {G : fm_G} {M : fm_M} {b o fr1 lo1 mc ms : Nat} {fs : List Value} {p0 p1 p2 p3 p4 : Int32} {post : fm_M → Prop} (K : fm_CtX G yX5_rule cX5_rule 7 (some .int) fr1 lo1 mc ms [.ref b, .int p0, .int p1, .int p2, .int p3, .int p4] M eA post) (hM : M b = some (fm_O 5 fs)) (hfr : fr1 + 1 ≤ 9) (hlo : 8 + (7 + 11) + lo1 ≤ 200) :
    fm_CtW G yL_rule cL_rule 8 (some .int) hL_rule 9 200 mc ms [.ref b, .int p0, .int p1, .int p2, .int p3, .int p4, .ref o] M (fun v M1 => v = some (.int (nI 1)) ∧ post M1) := by
  refine fm_headW (by decide) (Nat.le_of_ble_eq_true rfl) rfl (fun X C HX rt => ?_)
  refine g_aload C dL_rule_0 rfl ?_
  refine g_iconst C dL_rule_2 (v := nI 0) rfl ?_
  refine g_aload_n C dL_rule_3 rfl ?_
  refine g_iload_n C dL_rule_4 rfl ?_
  refine g_iload_n C dL_rule_5 rfl ?_
  refine g_iload_n C dL_rule_6 rfl ?_
  refine g_iload C dL_rule_7 rfl ?_
  refine g_iload C dL_rule_9 rfl ?_
  refine g_catchV C HX (h := 19) dL_rule_11 cw_L_7 rfl K hM rfl rfl (Nat.le_of_ble_eq_true rfl) hfr hlo (by omega) (by omega) ⟨⟨by decide, by decide⟩, by decide, Or.inl ⟨rfl, lk_L_13, by decide +kernel⟩⟩ (fun M1 q hp => ?_)
  refine g_astore C dL_rule_19 (by decide) ?_
  refine g_iconst C dL_rule_21 (v := nI 1) rfl ?_
  exact rt (some (.int (nI 1))) _ _ _ _ _ (fm_retI dL_rule_22) ⟨rfl, hp⟩ (by omega) (by omega)
set_option maxHeartbeats 4000000 in
set_option maxRecDepth 100000 in
theorem w_rule_S {G : fm_G} {M : fm_M} {b o fr1 lo1 mc ms : Nat} {fs : List Value} {p0 p1 p2 p3 p4 : Int32} {post : fm_M → Prop} (K : fm_CtX G yX5_rule cX5_rule 7 (some .int) fr1 lo1 mc ms [.ref b, .int p0, .int p1, .int p2, .int p3, .int p4] M eS post) (hM : M b = some (fm_O 5 fs)) (hfr : fr1 + 1 ≤ 9) (hlo : 8 + (7 + 11) + lo1 ≤ 200) :
    fm_CtW G yL_rule cL_rule 8 (some .int) hL_rule 9 200 mc ms [.ref b, .int p0, .int p1, .int p2, .int p3, .int p4, .ref o] M (fun v M1 => v = some (.int (nI 2)) ∧ post M1) := by
  refine fm_headW (by decide) (Nat.le_of_ble_eq_true rfl) rfl (fun X C HX rt => ?_)
  refine g_aload C dL_rule_0 rfl ?_
  refine g_iconst C dL_rule_2 (v := nI 0) rfl ?_
  refine g_aload_n C dL_rule_3 rfl ?_
  refine g_iload_n C dL_rule_4 rfl ?_
  refine g_iload_n C dL_rule_5 rfl ?_
  refine g_iload_n C dL_rule_6 rfl ?_
  refine g_iload C dL_rule_7 rfl ?_
  refine g_iload C dL_rule_9 rfl ?_
  refine g_catchV C HX (h := 23) dL_rule_11 cw_L_7 rfl K hM rfl rfl (Nat.le_of_ble_eq_true rfl) hfr hlo (by omega) (by omega) ⟨⟨by decide, by decide⟩, by decide, Or.inr ⟨⟨eA, lk_L_13, by decide +kernel⟩, ⟨⟨by decide, by decide⟩, by decide, Or.inl ⟨rfl, lk_L_15, by decide +kernel⟩⟩⟩⟩ (fun M1 q hp => ?_)
  refine g_astore C dL_rule_23 (by decide) ?_
  refine g_iconst C dL_rule_25 (v := nI 2) rfl ?_
  exact rt (some (.int (nI 2))) _ _ _ _ _ (fm_retI dL_rule_26) ⟨rfl, hp⟩ (by omega) (by omega)
abbrev hL_height : List (Nat × Nat × Nat × Nat) := [(0, 14, 17, 13)]
set_option maxHeartbeats 4000000 in
set_option maxRecDepth 100000 in
theorem w_height {G : fm_G} {M : fm_M} {b o fr1 lo1 mc ms : Nat} {fs : List Value} {p0 p1 p2 p3 : Int32} {post : Option Value → fm_M → Prop} (K : fm_Ct G yX5_height cX5_height 7 (some .int) fr1 lo1 mc ms [.ref b, .int p0, .int p1, .int p2, .int p3] M post) (hM : M b = some (fm_O 5 fs)) (hp0 : ∀ v M1, post v M1 → (∃ i : Int32, v = some (.int i)) ∧ ∃ f, M1 o = some (fm_L G 1 f)) (hfr : fr1 + 1 ≤ 9) (hlo : 8 + (7 + 11) + lo1 ≤ 200) :
    fm_CtW G yL_height cL_height 7 (some .int) hL_height 9 200 mc ms [.ref b, .int p0, .int p1, .int p2, .int p3, .ref o] M (fun v M1 => v = some (.int (nI 0)) ∧ ∃ (i : Int32) (M0 : fm_M) (f : Nat → Int64), post (some (.int i)) M0 ∧ M0 o = some (fm_L G 1 f) ∧ M1 = fm_set M0 o (fm_L G 1 (vp_updL f 0 i.toInt64))) := by
  refine fm_headW (by decide) (Nat.le_of_ble_eq_true rfl) rfl (fun X C HX rt => ?_)
  refine g_aload C dL_height_0 rfl ?_
  refine g_iconst C dL_height_2 (v := nI 0) rfl ?_
  refine g_aload_n C dL_height_3 rfl ?_
  refine g_iload_n C dL_height_4 rfl ?_
  refine g_iload_n C dL_height_5 rfl ?_
  refine g_iload_n C dL_height_6 rfl ?_
  refine g_iload C dL_height_7 rfl ?_
  refine g_callV C dL_height_9 cw_L_17 rfl K hM rfl rfl (Nat.le_of_ble_eq_true rfl) hfr hlo (by omega) (by omega) (fun v M1 hp => ?_)
  obtain ⟨⟨i, rfl⟩, f, hf⟩ := hp0 v M1 hp
  refine g_i2l C dL_height_12 ?_
  refine g_lastN C dL_height_13 hf (by decide) (by decide) ?_
  refine g_goto C dL_height_14 (tgt := 21) (by decide) ?_
  refine g_iconst C dL_height_21 (v := nI 0) rfl ?_
  exact rt (some (.int (nI 0))) _ _ _ _ _ (fm_retI dL_height_22) ⟨rfl, i, M1, f, hp, hf, rfl⟩ (by omega) (by omega)
set_option maxHeartbeats 4000000 in
set_option maxRecDepth 100000 in
theorem w_height_A {G : fm_G} {M : fm_M} {b o fr1 lo1 mc ms : Nat} {fs : List Value} {p0 p1 p2 p3 : Int32} {post : fm_M → Prop} (K : fm_CtX G yX5_height cX5_height 7 (some .int) fr1 lo1 mc ms [.ref b, .int p0, .int p1, .int p2, .int p3] M eA post) (hM : M b = some (fm_O 5 fs)) (hfr : fr1 + 1 ≤ 9) (hlo : 8 + (7 + 11) + lo1 ≤ 200) :
    fm_CtW G yL_height cL_height 7 (some .int) hL_height 9 200 mc ms [.ref b, .int p0, .int p1, .int p2, .int p3, .ref o] M (fun v M1 => v = some (.int (nI 1)) ∧ post M1) := by
  refine fm_headW (by decide) (Nat.le_of_ble_eq_true rfl) rfl (fun X C HX rt => ?_)
  refine g_aload C dL_height_0 rfl ?_
  refine g_iconst C dL_height_2 (v := nI 0) rfl ?_
  refine g_aload_n C dL_height_3 rfl ?_
  refine g_iload_n C dL_height_4 rfl ?_
  refine g_iload_n C dL_height_5 rfl ?_
  refine g_iload_n C dL_height_6 rfl ?_
  refine g_iload C dL_height_7 rfl ?_
  refine g_catchV C HX (h := 17) dL_height_9 cw_L_17 rfl K hM rfl rfl (Nat.le_of_ble_eq_true rfl) hfr hlo (by omega) (by omega) ⟨⟨by decide, by decide⟩, by decide, Or.inl ⟨rfl, lk_L_13, by decide +kernel⟩⟩ (fun M1 q hp => ?_)
  refine g_astore C dL_height_17 (by decide) ?_
  refine g_iconst C dL_height_19 (v := nI 1) rfl ?_
  exact rt (some (.int (nI 1))) _ _ _ _ _ (fm_retI dL_height_20) ⟨rfl, hp⟩ (by omega) (by omega)
abbrev hL_many : List (Nat × Nat × Nat × Nat) := [(0, 9, 12, 13)]
set_option maxHeartbeats 4000000 in
set_option maxRecDepth 100000 in
theorem w_many {G : fm_G} {M : fm_M} {b o fr1 lo1 mc ms : Nat} {fs : List Value} {p0 : Int32} {post : Option Value → fm_M → Prop} (K : fm_Ct G yX5_many cX5_many 2 (some .int) fr1 lo1 mc ms [.ref b, .int p0] M post) (hM : M b = some (fm_O 5 fs)) (hp0 : ∀ v M1, post v M1 → (∃ i : Int32, v = some (.int i)) ∧ ∃ f, M1 o = some (fm_L G 1 f)) (hfr : fr1 + 1 ≤ 9) (hlo : 8 + (2 + 11) + lo1 ≤ 200) :
    fm_CtW G yL_many cL_many 4 (some .int) hL_many 9 200 mc ms [.ref b, .int p0, .ref o] M (fun v M1 => v = some (.int (nI 0)) ∧ ∃ (i : Int32) (M0 : fm_M) (f : Nat → Int64), post (some (.int i)) M0 ∧ M0 o = some (fm_L G 1 f) ∧ M1 = fm_set M0 o (fm_L G 1 (vp_updL f 0 i.toInt64))) := by
  refine fm_headW (by decide) (Nat.le_of_ble_eq_true rfl) rfl (fun X C HX rt => ?_)
  refine g_aload_n C dL_many_0 rfl ?_
  refine g_iconst C dL_many_1 (v := nI 0) rfl ?_
  refine g_aload_n C dL_many_2 rfl ?_
  refine g_iload_n C dL_many_3 rfl ?_
  refine g_callV C dL_many_4 cw_L_21 rfl K hM rfl rfl (Nat.le_of_ble_eq_true rfl) hfr hlo (by omega) (by omega) (fun v M1 hp => ?_)
  obtain ⟨⟨i, rfl⟩, f, hf⟩ := hp0 v M1 hp
  refine g_i2l C dL_many_7 ?_
  refine g_lastN C dL_many_8 hf (by decide) (by decide) ?_
  refine g_goto C dL_many_9 (tgt := 15) (by decide) ?_
  refine g_iconst C dL_many_15 (v := nI 0) rfl ?_
  exact rt (some (.int (nI 0))) _ _ _ _ _ (fm_retI dL_many_16) ⟨rfl, i, M1, f, hp, hf, rfl⟩ (by omega) (by omega)
set_option maxHeartbeats 4000000 in
set_option maxRecDepth 100000 in
theorem w_many_A {G : fm_G} {M : fm_M} {b o fr1 lo1 mc ms : Nat} {fs : List Value} {p0 : Int32} {post : fm_M → Prop} (K : fm_CtX G yX5_many cX5_many 2 (some .int) fr1 lo1 mc ms [.ref b, .int p0] M eA post) (hM : M b = some (fm_O 5 fs)) (hfr : fr1 + 1 ≤ 9) (hlo : 8 + (2 + 11) + lo1 ≤ 200) :
    fm_CtW G yL_many cL_many 4 (some .int) hL_many 9 200 mc ms [.ref b, .int p0, .ref o] M (fun v M1 => v = some (.int (nI 1)) ∧ post M1) := by
  refine fm_headW (by decide) (Nat.le_of_ble_eq_true rfl) rfl (fun X C HX rt => ?_)
  refine g_aload_n C dL_many_0 rfl ?_
  refine g_iconst C dL_many_1 (v := nI 0) rfl ?_
  refine g_aload_n C dL_many_2 rfl ?_
  refine g_iload_n C dL_many_3 rfl ?_
  refine g_catchV C HX (h := 12) dL_many_4 cw_L_21 rfl K hM rfl rfl (Nat.le_of_ble_eq_true rfl) hfr hlo (by omega) (by omega) ⟨⟨by decide, by decide⟩, by decide, Or.inl ⟨rfl, lk_L_13, by decide +kernel⟩⟩ (fun M1 q hp => ?_)
  refine g_astore_n C dL_many_12 (by decide) ?_
  refine g_iconst C dL_many_13 (v := nI 1) rfl ?_
  exact rt (some (.int (nI 1))) _ _ _ _ _ (fm_retI dL_many_14) ⟨rfl, hp⟩ (by omega) (by omega)
abbrev hL_count : List (Nat × Nat × Nat × Nat) := [(0, 10, 13, 13), (0, 10, 17, 29)]
set_option maxHeartbeats 4000000 in
set_option maxRecDepth 100000 in
theorem w_count {G : fm_G} {M : fm_M} {b o fr1 lo1 mc ms : Nat} {fs : List Value} {p0 p1 : Int32} {post : Option Value → fm_M → Prop} (K : fm_Ct G yX5_count cX5_count 4 (some .int) fr1 lo1 mc ms [.ref b, .int p0, .int p1] M post) (hM : M b = some (fm_O 5 fs)) (hp0 : ∀ v M1, post v M1 → (∃ i : Int32, v = some (.int i)) ∧ ∃ f, M1 o = some (fm_L G 1 f)) (hfr : fr1 + 1 ≤ 9) (hlo : 8 + (4 + 11) + lo1 ≤ 200) :
    fm_CtW G yL_count cL_count 5 (some .int) hL_count 9 200 mc ms [.ref b, .int p0, .int p1, .ref o] M (fun v M1 => v = some (.int (nI 0)) ∧ ∃ (i : Int32) (M0 : fm_M) (f : Nat → Int64), post (some (.int i)) M0 ∧ M0 o = some (fm_L G 1 f) ∧ M1 = fm_set M0 o (fm_L G 1 (vp_updL f 0 i.toInt64))) := by
  refine fm_headW (by decide) (Nat.le_of_ble_eq_true rfl) rfl (fun X C HX rt => ?_)
  refine g_aload_n C dL_count_0 rfl ?_
  refine g_iconst C dL_count_1 (v := nI 0) rfl ?_
  refine g_aload_n C dL_count_2 rfl ?_
  refine g_iload_n C dL_count_3 rfl ?_
  refine g_iload_n C dL_count_4 rfl ?_
  refine g_callV C dL_count_5 cw_L_25 rfl K hM rfl rfl (Nat.le_of_ble_eq_true rfl) hfr hlo (by omega) (by omega) (fun v M1 hp => ?_)
  obtain ⟨⟨i, rfl⟩, f, hf⟩ := hp0 v M1 hp
  refine g_i2l C dL_count_8 ?_
  refine g_lastN C dL_count_9 hf (by decide) (by decide) ?_
  refine g_goto C dL_count_10 (tgt := 21) (by decide) ?_
  refine g_iconst C dL_count_21 (v := nI 0) rfl ?_
  exact rt (some (.int (nI 0))) _ _ _ _ _ (fm_retI dL_count_22) ⟨rfl, i, M1, f, hp, hf, rfl⟩ (by omega) (by omega)
set_option maxHeartbeats 4000000 in
set_option maxRecDepth 100000 in
theorem w_count_A {G : fm_G} {M : fm_M} {b o fr1 lo1 mc ms : Nat} {fs : List Value} {p0 p1 : Int32} {post : fm_M → Prop} (K : fm_CtX G yX5_count cX5_count 4 (some .int) fr1 lo1 mc ms [.ref b, .int p0, .int p1] M eA post) (hM : M b = some (fm_O 5 fs)) (hfr : fr1 + 1 ≤ 9) (hlo : 8 + (4 + 11) + lo1 ≤ 200) :
    fm_CtW G yL_count cL_count 5 (some .int) hL_count 9 200 mc ms [.ref b, .int p0, .int p1, .ref o] M (fun v M1 => v = some (.int (nI 1)) ∧ post M1) := by
  refine fm_headW (by decide) (Nat.le_of_ble_eq_true rfl) rfl (fun X C HX rt => ?_)
  refine g_aload_n C dL_count_0 rfl ?_
  refine g_iconst C dL_count_1 (v := nI 0) rfl ?_
  refine g_aload_n C dL_count_2 rfl ?_
  refine g_iload_n C dL_count_3 rfl ?_
  refine g_iload_n C dL_count_4 rfl ?_
  refine g_catchV C HX (h := 13) dL_count_5 cw_L_25 rfl K hM rfl rfl (Nat.le_of_ble_eq_true rfl) hfr hlo (by omega) (by omega) ⟨⟨by decide, by decide⟩, by decide, Or.inl ⟨rfl, lk_L_13, by decide +kernel⟩⟩ (fun M1 q hp => ?_)
  refine g_astore C dL_count_13 (by decide) ?_
  refine g_iconst C dL_count_15 (v := nI 1) rfl ?_
  exact rt (some (.int (nI 1))) _ _ _ _ _ (fm_retI dL_count_16) ⟨rfl, hp⟩ (by omega) (by omega)
set_option maxHeartbeats 4000000 in
set_option maxRecDepth 100000 in
theorem w_count_B {G : fm_G} {M : fm_M} {b o fr1 lo1 mc ms : Nat} {fs : List Value} {p0 p1 : Int32} {post : fm_M → Prop} (K : fm_CtX G yX5_count cX5_count 4 (some .int) fr1 lo1 mc ms [.ref b, .int p0, .int p1] M eB post) (hM : M b = some (fm_O 5 fs)) (hfr : fr1 + 1 ≤ 9) (hlo : 8 + (4 + 11) + lo1 ≤ 200) :
    fm_CtW G yL_count cL_count 5 (some .int) hL_count 9 200 mc ms [.ref b, .int p0, .int p1, .ref o] M (fun v M1 => v = some (.int (nI 2)) ∧ post M1) := by
  refine fm_headW (by decide) (Nat.le_of_ble_eq_true rfl) rfl (fun X C HX rt => ?_)
  refine g_aload_n C dL_count_0 rfl ?_
  refine g_iconst C dL_count_1 (v := nI 0) rfl ?_
  refine g_aload_n C dL_count_2 rfl ?_
  refine g_iload_n C dL_count_3 rfl ?_
  refine g_iload_n C dL_count_4 rfl ?_
  refine g_catchV C HX (h := 17) dL_count_5 cw_L_25 rfl K hM rfl rfl (Nat.le_of_ble_eq_true rfl) hfr hlo (by omega) (by omega) ⟨⟨by decide, by decide⟩, by decide, Or.inr ⟨⟨eA, lk_L_13, by decide +kernel⟩, ⟨⟨by decide, by decide⟩, by decide, Or.inl ⟨rfl, lk_L_29, by decide +kernel⟩⟩⟩⟩ (fun M1 q hp => ?_)
  refine g_astore C dL_count_17 (by decide) ?_
  refine g_iconst C dL_count_19 (v := nI 2) rfl ?_
  exact rt (some (.int (nI 2))) _ _ _ _ _ (fm_retI dL_count_20) ⟨rfl, hp⟩ (by omega) (by omega)
abbrev hL_derive : List (Nat × Nat × Nat × Nat) := [(0, 14, 17, 13), (0, 14, 21, 34), (0, 14, 25, 36)]
set_option maxHeartbeats 4000000 in
set_option maxRecDepth 100000 in
theorem w_derive {G : fm_G} {M : fm_M} {b o fr1 lo1 mc ms : Nat} {fs : List Value} {p0 p1 p2 p3 : Int32} {post : Option Value → fm_M → Prop} (K : fm_Ct G yX5_derive cX5_derive 7 (some .int) fr1 lo1 mc ms [.ref b, .int p0, .int p1, .int p2, .int p3] M post) (hM : M b = some (fm_O 5 fs)) (hp0 : ∀ v M1, post v M1 → (∃ i : Int32, v = some (.int i)) ∧ ∃ f, M1 o = some (fm_L G 1 f)) (hfr : fr1 + 1 ≤ 9) (hlo : 8 + (7 + 11) + lo1 ≤ 200) :
    fm_CtW G yL_derive cL_derive 7 (some .int) hL_derive 9 200 mc ms [.ref b, .int p0, .int p1, .int p2, .int p3, .ref o] M (fun v M1 => v = some (.int (nI 0)) ∧ ∃ (i : Int32) (M0 : fm_M) (f : Nat → Int64), post (some (.int i)) M0 ∧ M0 o = some (fm_L G 1 f) ∧ M1 = fm_set M0 o (fm_L G 1 (vp_updL f 0 i.toInt64))) := by
  refine fm_headW (by decide) (Nat.le_of_ble_eq_true rfl) rfl (fun X C HX rt => ?_)
  refine g_aload C dL_derive_0 rfl ?_
  refine g_iconst C dL_derive_2 (v := nI 0) rfl ?_
  refine g_aload_n C dL_derive_3 rfl ?_
  refine g_iload_n C dL_derive_4 rfl ?_
  refine g_iload_n C dL_derive_5 rfl ?_
  refine g_iload_n C dL_derive_6 rfl ?_
  refine g_iload C dL_derive_7 rfl ?_
  refine g_callV C dL_derive_9 cw_L_31 rfl K hM rfl rfl (Nat.le_of_ble_eq_true rfl) hfr hlo (by omega) (by omega) (fun v M1 hp => ?_)
  obtain ⟨⟨i, rfl⟩, f, hf⟩ := hp0 v M1 hp
  refine g_i2l C dL_derive_12 ?_
  refine g_lastN C dL_derive_13 hf (by decide) (by decide) ?_
  refine g_goto C dL_derive_14 (tgt := 29) (by decide) ?_
  refine g_iconst C dL_derive_29 (v := nI 0) rfl ?_
  exact rt (some (.int (nI 0))) _ _ _ _ _ (fm_retI dL_derive_30) ⟨rfl, i, M1, f, hp, hf, rfl⟩ (by omega) (by omega)
set_option maxHeartbeats 4000000 in
set_option maxRecDepth 100000 in
theorem w_derive_A {G : fm_G} {M : fm_M} {b o fr1 lo1 mc ms : Nat} {fs : List Value} {p0 p1 p2 p3 : Int32} {post : fm_M → Prop} (K : fm_CtX G yX5_derive cX5_derive 7 (some .int) fr1 lo1 mc ms [.ref b, .int p0, .int p1, .int p2, .int p3] M eA post) (hM : M b = some (fm_O 5 fs)) (hfr : fr1 + 1 ≤ 9) (hlo : 8 + (7 + 11) + lo1 ≤ 200) :
    fm_CtW G yL_derive cL_derive 7 (some .int) hL_derive 9 200 mc ms [.ref b, .int p0, .int p1, .int p2, .int p3, .ref o] M (fun v M1 => v = some (.int (nI 1)) ∧ post M1) := by
  refine fm_headW (by decide) (Nat.le_of_ble_eq_true rfl) rfl (fun X C HX rt => ?_)
  refine g_aload C dL_derive_0 rfl ?_
  refine g_iconst C dL_derive_2 (v := nI 0) rfl ?_
  refine g_aload_n C dL_derive_3 rfl ?_
  refine g_iload_n C dL_derive_4 rfl ?_
  refine g_iload_n C dL_derive_5 rfl ?_
  refine g_iload_n C dL_derive_6 rfl ?_
  refine g_iload C dL_derive_7 rfl ?_
  refine g_catchV C HX (h := 17) dL_derive_9 cw_L_31 rfl K hM rfl rfl (Nat.le_of_ble_eq_true rfl) hfr hlo (by omega) (by omega) ⟨⟨by decide, by decide⟩, by decide, Or.inl ⟨rfl, lk_L_13, by decide +kernel⟩⟩ (fun M1 q hp => ?_)
  refine g_astore C dL_derive_17 (by decide) ?_
  refine g_iconst C dL_derive_19 (v := nI 1) rfl ?_
  exact rt (some (.int (nI 1))) _ _ _ _ _ (fm_retI dL_derive_20) ⟨rfl, hp⟩ (by omega) (by omega)
set_option maxHeartbeats 4000000 in
set_option maxRecDepth 100000 in
theorem w_derive_N {G : fm_G} {M : fm_M} {b o fr1 lo1 mc ms : Nat} {fs : List Value} {p0 p1 p2 p3 : Int32} {post : fm_M → Prop} (K : fm_CtX G yX5_derive cX5_derive 7 (some .int) fr1 lo1 mc ms [.ref b, .int p0, .int p1, .int p2, .int p3] M eN post) (hM : M b = some (fm_O 5 fs)) (hfr : fr1 + 1 ≤ 9) (hlo : 8 + (7 + 11) + lo1 ≤ 200) :
    fm_CtW G yL_derive cL_derive 7 (some .int) hL_derive 9 200 mc ms [.ref b, .int p0, .int p1, .int p2, .int p3, .ref o] M (fun v M1 => v = some (.int (nI 2)) ∧ post M1) := by
  refine fm_headW (by decide) (Nat.le_of_ble_eq_true rfl) rfl (fun X C HX rt => ?_)
  refine g_aload C dL_derive_0 rfl ?_
  refine g_iconst C dL_derive_2 (v := nI 0) rfl ?_
  refine g_aload_n C dL_derive_3 rfl ?_
  refine g_iload_n C dL_derive_4 rfl ?_
  refine g_iload_n C dL_derive_5 rfl ?_
  refine g_iload_n C dL_derive_6 rfl ?_
  refine g_iload C dL_derive_7 rfl ?_
  refine g_catchV C HX (h := 21) dL_derive_9 cw_L_31 rfl K hM rfl rfl (Nat.le_of_ble_eq_true rfl) hfr hlo (by omega) (by omega) ⟨⟨by decide, by decide⟩, by decide, Or.inr ⟨⟨eA, lk_L_13, by decide +kernel⟩, ⟨⟨by decide, by decide⟩, by decide, Or.inl ⟨rfl, lk_L_34, by decide +kernel⟩⟩⟩⟩ (fun M1 q hp => ?_)
  refine g_astore C dL_derive_21 (by decide) ?_
  refine g_iconst C dL_derive_23 (v := nI 2) rfl ?_
  exact rt (some (.int (nI 2))) _ _ _ _ _ (fm_retI dL_derive_24) ⟨rfl, hp⟩ (by omega) (by omega)
set_option maxHeartbeats 4000000 in
set_option maxRecDepth 100000 in
theorem w_derive_U {G : fm_G} {M : fm_M} {b o fr1 lo1 mc ms : Nat} {fs : List Value} {p0 p1 p2 p3 : Int32} {post : fm_M → Prop} (K : fm_CtX G yX5_derive cX5_derive 7 (some .int) fr1 lo1 mc ms [.ref b, .int p0, .int p1, .int p2, .int p3] M eU post) (hM : M b = some (fm_O 5 fs)) (hfr : fr1 + 1 ≤ 9) (hlo : 8 + (7 + 11) + lo1 ≤ 200) :
    fm_CtW G yL_derive cL_derive 7 (some .int) hL_derive 9 200 mc ms [.ref b, .int p0, .int p1, .int p2, .int p3, .ref o] M (fun v M1 => v = some (.int (nI 3)) ∧ post M1) := by
  refine fm_headW (by decide) (Nat.le_of_ble_eq_true rfl) rfl (fun X C HX rt => ?_)
  refine g_aload C dL_derive_0 rfl ?_
  refine g_iconst C dL_derive_2 (v := nI 0) rfl ?_
  refine g_aload_n C dL_derive_3 rfl ?_
  refine g_iload_n C dL_derive_4 rfl ?_
  refine g_iload_n C dL_derive_5 rfl ?_
  refine g_iload_n C dL_derive_6 rfl ?_
  refine g_iload C dL_derive_7 rfl ?_
  refine g_catchV C HX (h := 25) dL_derive_9 cw_L_31 rfl K hM rfl rfl (Nat.le_of_ble_eq_true rfl) hfr hlo (by omega) (by omega) ⟨⟨by decide, by decide⟩, by decide, Or.inr ⟨⟨eA, lk_L_13, by decide +kernel⟩, ⟨⟨by decide, by decide⟩, by decide, Or.inr ⟨⟨eN, lk_L_34, by decide +kernel⟩, ⟨⟨by decide, by decide⟩, by decide, Or.inl ⟨rfl, lk_L_36, by decide +kernel⟩⟩⟩⟩⟩⟩ (fun M1 q hp => ?_)
  refine g_astore C dL_derive_25 (by decide) ?_
  refine g_iconst C dL_derive_27 (v := nI 3) rfl ?_
  exact rt (some (.int (nI 3))) _ _ _ _ _ (fm_retI dL_derive_28) ⟨rfl, hp⟩ (by omega) (by omega)
abbrev hL_step : List (Nat × Nat × Nat × Nat) := [(0, 9, 12, 29)]
set_option maxHeartbeats 4000000 in
set_option maxRecDepth 100000 in
theorem w_step {G : fm_G} {M : fm_M} {b o fr1 lo1 mc ms : Nat} {fs : List Value} {p0 : Int32} {post : Option Value → fm_M → Prop} (K : fm_Ct G yX5_step cX5_step 2 (some .int) fr1 lo1 mc ms [.ref b, .int p0] M post) (hM : M b = some (fm_O 5 fs)) (hp0 : ∀ v M1, post v M1 → (∃ i : Int32, v = some (.int i)) ∧ ∃ f, M1 o = some (fm_L G 1 f)) (hfr : fr1 + 1 ≤ 9) (hlo : 8 + (2 + 11) + lo1 ≤ 200) :
    fm_CtW G yL_step cL_step 4 (some .int) hL_step 9 200 mc ms [.ref b, .int p0, .ref o] M (fun v M1 => v = some (.int (nI 0)) ∧ ∃ (i : Int32) (M0 : fm_M) (f : Nat → Int64), post (some (.int i)) M0 ∧ M0 o = some (fm_L G 1 f) ∧ M1 = fm_set M0 o (fm_L G 1 (vp_updL f 0 i.toInt64))) := by
  refine fm_headW (by decide) (Nat.le_of_ble_eq_true rfl) rfl (fun X C HX rt => ?_)
  refine g_aload_n C dL_step_0 rfl ?_
  refine g_iconst C dL_step_1 (v := nI 0) rfl ?_
  refine g_aload_n C dL_step_2 rfl ?_
  refine g_iload_n C dL_step_3 rfl ?_
  refine g_callV C dL_step_4 cw_L_38 rfl K hM rfl rfl (Nat.le_of_ble_eq_true rfl) hfr hlo (by omega) (by omega) (fun v M1 hp => ?_)
  obtain ⟨⟨i, rfl⟩, f, hf⟩ := hp0 v M1 hp
  refine g_i2l C dL_step_7 ?_
  refine g_lastN C dL_step_8 hf (by decide) (by decide) ?_
  refine g_goto C dL_step_9 (tgt := 15) (by decide) ?_
  refine g_iconst C dL_step_15 (v := nI 0) rfl ?_
  exact rt (some (.int (nI 0))) _ _ _ _ _ (fm_retI dL_step_16) ⟨rfl, i, M1, f, hp, hf, rfl⟩ (by omega) (by omega)
set_option maxHeartbeats 4000000 in
set_option maxRecDepth 100000 in
theorem w_step_B {G : fm_G} {M : fm_M} {b o fr1 lo1 mc ms : Nat} {fs : List Value} {p0 : Int32} {post : fm_M → Prop} (K : fm_CtX G yX5_step cX5_step 2 (some .int) fr1 lo1 mc ms [.ref b, .int p0] M eB post) (hM : M b = some (fm_O 5 fs)) (hfr : fr1 + 1 ≤ 9) (hlo : 8 + (2 + 11) + lo1 ≤ 200) :
    fm_CtW G yL_step cL_step 4 (some .int) hL_step 9 200 mc ms [.ref b, .int p0, .ref o] M (fun v M1 => v = some (.int (nI 1)) ∧ post M1) := by
  refine fm_headW (by decide) (Nat.le_of_ble_eq_true rfl) rfl (fun X C HX rt => ?_)
  refine g_aload_n C dL_step_0 rfl ?_
  refine g_iconst C dL_step_1 (v := nI 0) rfl ?_
  refine g_aload_n C dL_step_2 rfl ?_
  refine g_iload_n C dL_step_3 rfl ?_
  refine g_catchV C HX (h := 12) dL_step_4 cw_L_38 rfl K hM rfl rfl (Nat.le_of_ble_eq_true rfl) hfr hlo (by omega) (by omega) ⟨⟨by decide, by decide⟩, by decide, Or.inl ⟨rfl, lk_L_29, by decide +kernel⟩⟩ (fun M1 q hp => ?_)
  refine g_astore_n C dL_step_12 (by decide) ?_
  refine g_iconst C dL_step_13 (v := nI 1) rfl ?_
  exact rt (some (.int (nI 1))) _ _ _ _ _ (fm_retI dL_step_14) ⟨rfl, hp⟩ (by omega) (by omega)
abbrev hL_use : List (Nat × Nat × Nat × Nat) := [(0, 10, 13, 13)]
set_option maxHeartbeats 4000000 in
set_option maxRecDepth 100000 in
theorem w_use {G : fm_G} {M : fm_M} {b o fr1 lo1 mc ms : Nat} {fs : List Value} {p0 p1 : Int32} {post : Option Value → fm_M → Prop} (K : fm_Ct G yX5_use cX5_use 4 (some .int) fr1 lo1 mc ms [.ref b, .int p0, .int p1] M post) (hM : M b = some (fm_O 5 fs)) (hp0 : ∀ v M1, post v M1 → (∃ i : Int32, v = some (.int i)) ∧ ∃ f, M1 o = some (fm_L G 1 f)) (hfr : fr1 + 1 ≤ 9) (hlo : 8 + (4 + 11) + lo1 ≤ 200) :
    fm_CtW G yL_use cL_use 5 (some .int) hL_use 9 200 mc ms [.ref b, .int p0, .int p1, .ref o] M (fun v M1 => v = some (.int (nI 0)) ∧ ∃ (i : Int32) (M0 : fm_M) (f : Nat → Int64), post (some (.int i)) M0 ∧ M0 o = some (fm_L G 1 f) ∧ M1 = fm_set M0 o (fm_L G 1 (vp_updL f 0 i.toInt64))) := by
  refine fm_headW (by decide) (Nat.le_of_ble_eq_true rfl) rfl (fun X C HX rt => ?_)
  refine g_aload_n C dL_use_0 rfl ?_
  refine g_iconst C dL_use_1 (v := nI 0) rfl ?_
  refine g_aload_n C dL_use_2 rfl ?_
  refine g_iload_n C dL_use_3 rfl ?_
  refine g_iload_n C dL_use_4 rfl ?_
  refine g_callV C dL_use_5 cw_L_41 rfl K hM rfl rfl (Nat.le_of_ble_eq_true rfl) hfr hlo (by omega) (by omega) (fun v M1 hp => ?_)
  obtain ⟨⟨i, rfl⟩, f, hf⟩ := hp0 v M1 hp
  refine g_i2l C dL_use_8 ?_
  refine g_lastN C dL_use_9 hf (by decide) (by decide) ?_
  refine g_goto C dL_use_10 (tgt := 17) (by decide) ?_
  refine g_iconst C dL_use_17 (v := nI 0) rfl ?_
  exact rt (some (.int (nI 0))) _ _ _ _ _ (fm_retI dL_use_18) ⟨rfl, i, M1, f, hp, hf, rfl⟩ (by omega) (by omega)
set_option maxHeartbeats 4000000 in
set_option maxRecDepth 100000 in
theorem w_use_A {G : fm_G} {M : fm_M} {b o fr1 lo1 mc ms : Nat} {fs : List Value} {p0 p1 : Int32} {post : fm_M → Prop} (K : fm_CtX G yX5_use cX5_use 4 (some .int) fr1 lo1 mc ms [.ref b, .int p0, .int p1] M eA post) (hM : M b = some (fm_O 5 fs)) (hfr : fr1 + 1 ≤ 9) (hlo : 8 + (4 + 11) + lo1 ≤ 200) :
    fm_CtW G yL_use cL_use 5 (some .int) hL_use 9 200 mc ms [.ref b, .int p0, .int p1, .ref o] M (fun v M1 => v = some (.int (nI 1)) ∧ post M1) := by
  refine fm_headW (by decide) (Nat.le_of_ble_eq_true rfl) rfl (fun X C HX rt => ?_)
  refine g_aload_n C dL_use_0 rfl ?_
  refine g_iconst C dL_use_1 (v := nI 0) rfl ?_
  refine g_aload_n C dL_use_2 rfl ?_
  refine g_iload_n C dL_use_3 rfl ?_
  refine g_iload_n C dL_use_4 rfl ?_
  refine g_catchV C HX (h := 13) dL_use_5 cw_L_41 rfl K hM rfl rfl (Nat.le_of_ble_eq_true rfl) hfr hlo (by omega) (by omega) ⟨⟨by decide, by decide⟩, by decide, Or.inl ⟨rfl, lk_L_13, by decide +kernel⟩⟩ (fun M1 q hp => ?_)
  refine g_astore C dL_use_13 (by decide) ?_
  refine g_iconst C dL_use_15 (v := nI 1) rfl ?_
  exact rt (some (.int (nI 1))) _ _ _ _ _ (fm_retI dL_use_16) ⟨rfl, hp⟩ (by omega) (by omega)
abbrev hL_fit : List (Nat × Nat × Nat × Nat) := [(0, 9, 12, 13)]
set_option maxHeartbeats 4000000 in
set_option maxRecDepth 100000 in
theorem w_fit {G : fm_G} {M : fm_M} {b o fr1 lo1 mc ms : Nat} {fs : List Value} {p0 : Int32} {post : Option Value → fm_M → Prop} (K : fm_Ct G yX5_fit cX5_fit 4 (some .int) fr1 lo1 mc ms [.ref b, .int p0] M post) (hM : M b = some (fm_O 5 fs)) (hp0 : ∀ v M1, post v M1 → (∃ i : Int32, v = some (.int i)) ∧ ∃ f, M1 o = some (fm_L G 1 f)) (hfr : fr1 + 1 ≤ 9) (hlo : 8 + (4 + 11) + lo1 ≤ 200) :
    fm_CtW G yL_fit cL_fit 4 (some .int) hL_fit 9 200 mc ms [.ref b, .int p0, .ref o] M (fun v M1 => v = some (.int (nI 0)) ∧ ∃ (i : Int32) (M0 : fm_M) (f : Nat → Int64), post (some (.int i)) M0 ∧ M0 o = some (fm_L G 1 f) ∧ M1 = fm_set M0 o (fm_L G 1 (vp_updL f 0 i.toInt64))) := by
  refine fm_headW (by decide) (Nat.le_of_ble_eq_true rfl) rfl (fun X C HX rt => ?_)
  refine g_aload_n C dL_fit_0 rfl ?_
  refine g_iconst C dL_fit_1 (v := nI 0) rfl ?_
  refine g_aload_n C dL_fit_2 rfl ?_
  refine g_iload_n C dL_fit_3 rfl ?_
  refine g_callV C dL_fit_4 cw_L_44 rfl K hM rfl rfl (Nat.le_of_ble_eq_true rfl) hfr hlo (by omega) (by omega) (fun v M1 hp => ?_)
  obtain ⟨⟨i, rfl⟩, f, hf⟩ := hp0 v M1 hp
  refine g_i2l C dL_fit_7 ?_
  refine g_lastN C dL_fit_8 hf (by decide) (by decide) ?_
  refine g_goto C dL_fit_9 (tgt := 15) (by decide) ?_
  refine g_iconst C dL_fit_15 (v := nI 0) rfl ?_
  exact rt (some (.int (nI 0))) _ _ _ _ _ (fm_retI dL_fit_16) ⟨rfl, i, M1, f, hp, hf, rfl⟩ (by omega) (by omega)
set_option maxHeartbeats 4000000 in
set_option maxRecDepth 100000 in
theorem w_fit_A {G : fm_G} {M : fm_M} {b o fr1 lo1 mc ms : Nat} {fs : List Value} {p0 : Int32} {post : fm_M → Prop} (K : fm_CtX G yX5_fit cX5_fit 4 (some .int) fr1 lo1 mc ms [.ref b, .int p0] M eA post) (hM : M b = some (fm_O 5 fs)) (hfr : fr1 + 1 ≤ 9) (hlo : 8 + (4 + 11) + lo1 ≤ 200) :
    fm_CtW G yL_fit cL_fit 4 (some .int) hL_fit 9 200 mc ms [.ref b, .int p0, .ref o] M (fun v M1 => v = some (.int (nI 1)) ∧ post M1) := by
  refine fm_headW (by decide) (Nat.le_of_ble_eq_true rfl) rfl (fun X C HX rt => ?_)
  refine g_aload_n C dL_fit_0 rfl ?_
  refine g_iconst C dL_fit_1 (v := nI 0) rfl ?_
  refine g_aload_n C dL_fit_2 rfl ?_
  refine g_iload_n C dL_fit_3 rfl ?_
  refine g_catchV C HX (h := 12) dL_fit_4 cw_L_44 rfl K hM rfl rfl (Nat.le_of_ble_eq_true rfl) hfr hlo (by omega) (by omega) ⟨⟨by decide, by decide⟩, by decide, Or.inl ⟨rfl, lk_L_13, by decide +kernel⟩⟩ (fun M1 q hp => ?_)
  refine g_astore_n C dL_fit_12 (by decide) ?_
  refine g_iconst C dL_fit_13 (v := nI 1) rfl ?_
  exact rt (some (.int (nI 1))) _ _ _ _ _ (fm_retI dL_fit_14) ⟨rfl, hp⟩ (by omega) (by omega)
abbrev hL_letters : List (Nat × Nat × Nat × Nat) := [(0, 9, 12, 13)]
set_option maxHeartbeats 4000000 in
set_option maxRecDepth 100000 in
theorem w_letters {G : fm_G} {M : fm_M} {b o fr1 lo1 mc ms : Nat} {fs : List Value} {p0 : Int32} {post : Option Value → fm_M → Prop} (K : fm_Ct G yX5_letters cX5_letters 4 (some .int) fr1 lo1 mc ms [.ref b, .int p0] M post) (hM : M b = some (fm_O 5 fs)) (hp0 : ∀ v M1, post v M1 → (∃ i : Int32, v = some (.int i)) ∧ ∃ f, M1 o = some (fm_L G 1 f)) (hfr : fr1 + 1 ≤ 9) (hlo : 8 + (4 + 11) + lo1 ≤ 200) :
    fm_CtW G yL_letters cL_letters 4 (some .int) hL_letters 9 200 mc ms [.ref b, .int p0, .ref o] M (fun v M1 => v = some (.int (nI 0)) ∧ ∃ (i : Int32) (M0 : fm_M) (f : Nat → Int64), post (some (.int i)) M0 ∧ M0 o = some (fm_L G 1 f) ∧ M1 = fm_set M0 o (fm_L G 1 (vp_updL f 0 i.toInt64))) := by
  refine fm_headW (by decide) (Nat.le_of_ble_eq_true rfl) rfl (fun X C HX rt => ?_)
  refine g_aload_n C dL_letters_0 rfl ?_
  refine g_iconst C dL_letters_1 (v := nI 0) rfl ?_
  refine g_aload_n C dL_letters_2 rfl ?_
  refine g_iload_n C dL_letters_3 rfl ?_
  refine g_callV C dL_letters_4 cw_L_47 rfl K hM rfl rfl (Nat.le_of_ble_eq_true rfl) hfr hlo (by omega) (by omega) (fun v M1 hp => ?_)
  obtain ⟨⟨i, rfl⟩, f, hf⟩ := hp0 v M1 hp
  refine g_i2l C dL_letters_7 ?_
  refine g_lastN C dL_letters_8 hf (by decide) (by decide) ?_
  refine g_goto C dL_letters_9 (tgt := 15) (by decide) ?_
  refine g_iconst C dL_letters_15 (v := nI 0) rfl ?_
  exact rt (some (.int (nI 0))) _ _ _ _ _ (fm_retI dL_letters_16) ⟨rfl, i, M1, f, hp, hf, rfl⟩ (by omega) (by omega)
set_option maxHeartbeats 4000000 in
set_option maxRecDepth 100000 in
theorem w_letters_A {G : fm_G} {M : fm_M} {b o fr1 lo1 mc ms : Nat} {fs : List Value} {p0 : Int32} {post : fm_M → Prop} (K : fm_CtX G yX5_letters cX5_letters 4 (some .int) fr1 lo1 mc ms [.ref b, .int p0] M eA post) (hM : M b = some (fm_O 5 fs)) (hfr : fr1 + 1 ≤ 9) (hlo : 8 + (4 + 11) + lo1 ≤ 200) :
    fm_CtW G yL_letters cL_letters 4 (some .int) hL_letters 9 200 mc ms [.ref b, .int p0, .ref o] M (fun v M1 => v = some (.int (nI 1)) ∧ post M1) := by
  refine fm_headW (by decide) (Nat.le_of_ble_eq_true rfl) rfl (fun X C HX rt => ?_)
  refine g_aload_n C dL_letters_0 rfl ?_
  refine g_iconst C dL_letters_1 (v := nI 0) rfl ?_
  refine g_aload_n C dL_letters_2 rfl ?_
  refine g_iload_n C dL_letters_3 rfl ?_
  refine g_catchV C HX (h := 12) dL_letters_4 cw_L_47 rfl K hM rfl rfl (Nat.le_of_ble_eq_true rfl) hfr hlo (by omega) (by omega) ⟨⟨by decide, by decide⟩, by decide, Or.inl ⟨rfl, lk_L_13, by decide +kernel⟩⟩ (fun M1 q hp => ?_)
  refine g_astore_n C dL_letters_12 (by decide) ?_
  refine g_iconst C dL_letters_13 (v := nI 1) rfl ?_
  exact rt (some (.int (nI 1))) _ _ _ _ _ (fm_retI dL_letters_14) ⟨rfl, hp⟩ (by omega) (by omega)
