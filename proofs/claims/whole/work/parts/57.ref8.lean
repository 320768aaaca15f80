/-! THE REFERENCE: count, derive, step, use -/
theorem in_dn {x : Int32} {m : Nat} (hm : m < 2 ^ 30) : (decide (nI 0 ≤ x) && decide (x ≤ nI m - nI 1)) = pB (∃ j, j < m ∧ x = nI j) := by
  cases m with
  | zero =>
    rw [pB_f (fun ⟨j, h, _⟩ => absurd h (Nat.not_lt_zero j))]
    cases hb : (decide (nI 0 ≤ x) && decide (x ≤ nI 0 - nI 1)) with
    | false => rfl
    | true =>
      rw [Bool.and_eq_true, decide_eq_true_iff, decide_eq_true_iff, i_le, i_le] at hb
      have e1 : (nI 0).toInt = 0 := by decide
      have e2 : (nI 0 - nI 1).toInt = -1 := by decide
      omega
  | succ m =>
    rw [pk_sub (show 1 ≤ m + 1 by omega), show m + 1 - 1 = m by omega]
    exact pB_of (ok_in (P := ∃ j, j < m + 1 ∧ x = nI j) (by omega) Iff.rfl rfl)

set_option maxHeartbeats 4000000 in
set_option maxRecDepth 100000 in
theorem l_rcount {G : fm_G} {rd : Nat → Nat} {S : Rs} {M : fm_M} {X : fm_X} {fr lo mc ms : Nat} {a : Ab} {n k : Nat} (C : GC G X RX6 cX6_count 6 fr lo mc ms) (Pi : RPic G rd S M) (hw : hwI (gO a) (S.1 4)) (hn : n < 5) (hk : k < mny (gO a) n 512) (kk : ∀ v ls, v < 512 → Tr (gO a) n v → mny (gO a) n v = k → fm_lk ls 4 = some (.int (nI v)) → GW G X 6 M 0 0 124 ls []) : ∀ d v, v + d = 512 → mny (gO a) n v ≤ k → GW G X 6 M 0 0 70 [(0, .ref (rd 0)), (1, .int (nI n)), (2, .int (nI k)), (4, .int (nI v)), (5, .int (nI (k - mny (gO a) n v)))] [] := by
  have hm5 : mny (gO a) n 512 ≤ 512 := cntq_le _ _
  intro d
  induction d with
  | zero =>
    intro v hv hle
    have e : v = 512 := by omega
    subst e
    omega
  | succ d ih =>
    intro v hv hle
    obtain ⟨hp1, hp2⟩ := hw_pos hw hn (show v < 512 by omega)
    have ih1 := ih (v + 1) (by omega)
    rw [mny_s] at ih1
    have stp : (0 < k - mny (gO a) n v ∨ ¬ Tr (gO a) n v) → GW G X 6 M 0 0 91 [(0, .ref (rd 0)), (1, .int (nI n)), (2, .int (nI k)), (4, .int (nI v)), (5, .int (nI (k - mny (gO a) n v)))] [] := by
      intro hc
      refine g_aload_n C dX6_count_91 rfl ?_
      refine g_getf C fl_X6_19 dX6_count_92 Pi.ob rfl ?_
      refine g_sipush C dX6_count_95 (v := nI 512) rfl ?_
      refine g_iload_n C dX6_count_98 rfl ?_
      refine g_imul C dX6_count_99 ?_
      refine g_topI (pk_mul 512 n) ?_
      refine g_iload C dX6_count_100 rfl ?_
      refine g_iadd C dX6_count_102 ?_
      refine g_topI (nI_add _ _) ?_
      refine g_ialdN C dX6_count_103 Pi.k4 (show 512 * n + v < 2560 by omega) (by decide) ?_
      refine g_if_le C dX6_count_104 (tgt := 114) (by decide) (fun h1 => ?_) (fun h1 => ?_)
      · rw [pB_f (fun z => (hp1.mpr z) h1), if_neg Bool.false_ne_true, Nat.add_zero] at ih1
        refine g_iload C dX6_count_114 rfl ?_
        refine g_istore C dX6_count_116 (by decide) ?_
        refine g_inc1 C dX6_count_118 rfl (by decide) ?_
        refine g_goto C dX6_count_121 (tgt := 70) (by decide) ?_
        exact ih1 hle
      · have hT := hp1.mp h1
        have hpos : 0 < k - mny (gO a) n v := hc.resolve_right (fun z => z hT)
        rw [pB_t hT, if_pos rfl, show k - (mny (gO a) n v + 1) = k - mny (gO a) n v - 1 by omega] at ih1
        refine g_iload C dX6_count_107 rfl ?_
        refine g_iconst C dX6_count_109 (v := nI 1) rfl ?_
        refine g_isub C dX6_count_110 ?_
        refine g_topI (pk_sub hpos) ?_
        refine g_goto C dX6_count_111 (tgt := 116) (by decide) ?_
        refine g_istore C dX6_count_116 (by decide) ?_
        refine g_inc1 C dX6_count_118 rfl (by decide) ?_
        refine g_goto C dX6_count_121 (tgt := 70) (by decide) ?_
        exact ih1 (by omega)
    refine g_iload C dX6_count_70 rfl ?_
    refine g_if_gt C dX6_count_72 (tgt := 91) (by decide) (fun h1 => ?_) (fun h1 => ?_)
    · refine stp (Or.inl (Nat.pos_of_ne_zero (fun z => ?_)))
      rw [z] at h1
      exact absurd h1 (by decide)
    · have hz : k - mny (gO a) n v = 0 := by
        by_cases z : k - mny (gO a) n v = 0
        · exact z
        · exact absurd ((nI_ltI (a := 0) (by omega) (by omega)).mpr (by omega)) h1
      refine g_aload_n C dX6_count_75 rfl ?_
      refine g_getf C fl_X6_19 dX6_count_76 Pi.ob rfl ?_
      refine g_sipush C dX6_count_79 (v := nI 512) rfl ?_
      refine g_iload_n C dX6_count_82 rfl ?_
      refine g_imul C dX6_count_83 ?_
      refine g_topI (pk_mul 512 n) ?_
      refine g_iload C dX6_count_84 rfl ?_
      refine g_iadd C dX6_count_86 ?_
      refine g_topI (nI_add _ _) ?_
      refine g_ialdN C dX6_count_87 Pi.k4 (show 512 * n + v < 2560 by omega) (by decide) ?_
      refine g_if_ne C dX6_count_88 (tgt := 124) (by decide) (fun h2 => ?_) (fun h2 => ?_)
      · exact kk v _ (by omega) (hp2.mp h2) (by omega) rfl
      · exact stp (Or.inr (fun z => hp2.mpr z h2))

set_option maxHeartbeats 4000000 in
set_option maxRecDepth 100000 in
theorem r_count_no (G : fm_G) (rd : Nat → Nat) (S : Rs) (M : fm_M) (Pi : RPic G rd S M) (a : Ab) (ha : AbOk a) (h : RR a S) (n k : Int32) (hn : ¬ okN n) : fm_Ct G yX6_count cX6_count 6 (some .int) 5 123 0 0 [.ref (rd 0), .int n, .int k] M (fun v M1 => ∃ S', v = some (.int (nI 0)) ∧ RPic G rd S' M1 ∧ RFr rd M M1 ∧ RR a S' ∧ S'.2 0 = nI 1) := by
  refine fm_head (by decide) (Nat.le_of_ble_eq_true rfl) rfl (fun X C N0 rt => ?_)
  refine g_iload_n C dX6_count_0 rfl ?_
  refine g_callS C dX6_count_1 cw_X6_49 (r_isN G M n) rfl rfl (Nat.le_of_ble_eq_true rfl) (by decide) (by decide) (by decide) (by decide) (fun u M0 hq => ?_)
  obtain ⟨hM, rfl⟩ := hq
  rw [hM, pB_f hn]
  clear hM
  show GW G X 6 M 0 0 4 _ [.int (bI false)]
  refine g_istore_n C dX6_count_4 (by decide) ?_
  refine g_iload_n C dX6_count_5 rfl ?_
  refine g_if_eq C dX6_count_6 (tgt := 13) (by decide) (fun _ => ?_) (fun q => absurd (by decide) q)
  refine g_aload_n C dX6_count_13 rfl ?_
  refine g_iload_n C dX6_count_14 rfl ?_
  refine g_if_ne C dX6_count_15 (tgt := 22) (by decide) (fun q => absurd (by decide) q) (fun _ => ?_)
  refine g_iconst C dX6_count_18 (v := nI 1) rfl ?_
  refine g_goto C dX6_count_19 (tgt := 23) (by decide) ?_
  refine g_iload_n C dX6_count_23 rfl ?_
  refine g_if_eq C dX6_count_24 (tgt := 54) (by decide) (fun _ => ?_) (fun q => absurd (by decide) q)
  refine g_iconst C dX6_count_54 (v := nI 0) rfl ?_
  refine g_iconst C dX6_count_55 (v := nI 0) rfl ?_
  refine g_callV (ci := 6) C dX6_count_56 cw_X6_56 rfl (r_refuse G rd S M Pi true false false) Pi.ob rfl rfl (Nat.le_of_ble_eq_true rfl) (by decide) (by decide) (by decide) (by decide) (fun u M1 hq => ?_)
  obtain ⟨rfl, S1, P1, F1, A1⟩ := hq
  show GW G X 6 M1 0 0 59 _ [.int (bI true)]
  refine g_if_eq C dX6_count_59 (tgt := 64) (by decide) (fun q => absurd q (by decide)) (fun _ => ?_)
  refine g_iconst C dX6_count_62 (v := nI 0) rfl ?_
  exact rt (some (.int _)) M1 _ _ _ _ (fm_retI dX6_count_63) ⟨S1, rfl, P1, F1, A1.RR0 h, A1.at⟩ (Nat.le_refl _) (Nat.le_refl _)

set_option maxHeartbeats 4000000 in
set_option maxRecDepth 100000 in
theorem l_rcount0 {G : fm_G} {rd : Nat → Nat} {S : Rs} {M : fm_M} {X : fm_X} {a : Ab} {n : Nat} {k : Int32} (C : GC G X RX6 cX6_count 6 5 123 0 0) (Pi : RPic G rd S M) (ha : AbOk a) (h : RR a S) (hn : n < 5) (cont : ∀ S1 M1, RPic G rd S1 M1 → RFr rd M M1 → RR a S1 → hwI (gO a) (S1.1 4) → S1.2 0 = nI (thq false (!(pB (∃ j, j < mny (gO a) n 512 ∧ k = nI j))) false) → GW G X 6 M1 0 0 59 [(0, .ref (rd 0)), (1, .int (nI n)), (2, .int k), (3, .int (bI true))] [.int (bI (!(pB (∃ j, j < mny (gO a) n 512 ∧ k = nI j))))]) : GW G X 6 M 0 0 0 [(0, .ref (rd 0)), (1, .int (nI n)), (2, .int k)] [] := by
  have hm5 : mny (gO a) n 512 ≤ 512 := cntq_le _ _
  refine g_iload_n C dX6_count_0 rfl ?_
  refine g_callS C dX6_count_1 cw_X6_49 (r_isN G M (nI n)) rfl rfl (Nat.le_of_ble_eq_true rfl) (by decide) (by decide) (by decide) (by decide) (fun u M0 hq => ?_)
  obtain ⟨hM, rfl⟩ := hq
  rw [hM, pB_t (show okN (nI n) from ⟨n, hn, rfl⟩)]
  clear hM
  show GW G X 6 M 0 0 4 _ [.int (bI true)]
  refine g_istore_n C dX6_count_4 (by decide) ?_
  refine g_iload_n C dX6_count_5 rfl ?_
  refine g_if_eq C dX6_count_6 (tgt := 13) (by decide) (fun q => absurd q (by decide)) (fun _ => ?_)
  refine g_aload_n C dX6_count_9 rfl ?_
  refine g_callV (ci := 6) C dX6_count_10 cw_X6_95 rfl (r_reckon G rd S M Pi a ha h) Pi.ob rfl rfl (Nat.le_of_ble_eq_true rfl) (by decide) (by decide) (by decide) (by decide) (fun u M2 hq => ?_)
  obtain ⟨rfl, S2, P2, F2, R2, w2, t2⟩ := hq
  show GW G X 6 M2 0 0 13 _ []
  refine g_aload_n C dX6_count_13 rfl ?_
  refine g_iload_n C dX6_count_14 rfl ?_
  refine g_if_ne C dX6_count_15 (tgt := 22) (by decide) (fun _ => ?_) (fun q => absurd q (by decide))
  refine g_iconst C dX6_count_22 (v := nI 0) rfl ?_
  refine g_iload_n C dX6_count_23 rfl ?_
  refine g_if_eq C dX6_count_24 (tgt := 54) (by decide) (fun q => absurd q (by decide)) (fun _ => ?_)
  refine g_iload_n C dX6_count_27 rfl ?_
  refine g_iconst C dX6_count_28 (v := nI 0) rfl ?_
  refine g_aload_n C dX6_count_29 rfl ?_
  refine g_iload_n C dX6_count_30 rfl ?_
  refine g_if_eq C dX6_count_31 (tgt := 38) (by decide) (fun q => absurd q (by decide)) (fun _ => ?_)
  refine g_iload_n C dX6_count_34 rfl ?_
  refine g_goto C dX6_count_35 (tgt := 39) (by decide) ?_
  refine g_callV (ci := 6) C dX6_count_39 cw_X6_98 rfl (r_manyOf G rd S2 M2 P2 a w2 n hn) P2.ob rfl rfl (Nat.le_of_ble_eq_true rfl) (by decide) (by decide) (by decide) (by decide) (fun u M3 hq => ?_)
  obtain ⟨rfl, rfl⟩ := hq
  show GW G X 6 M3 0 0 42 _ (.int (nI (mny (gO a) n 512)) :: .int (nI 0) :: .int k :: .int (nI 0) :: .ref (rd 0) :: [])
  refine g_iconst C dX6_count_42 (v := nI 1) rfl ?_
  refine g_isub C dX6_count_43 ?_
  refine g_callS C dX6_count_44 cw_X6_45 (r_in G M3 k (nI 0) (nI (mny (gO a) n 512) - nI 1)) rfl rfl (Nat.le_of_ble_eq_true rfl) (by decide) (by decide) (by decide) (by decide) (fun u M4 hq => ?_)
  obtain ⟨rfl, rfl⟩ := hq
  rw [in_dn (by omega)]
  have fin : ∀ g, g = !(pB (∃ j, j < mny (gO a) n 512 ∧ k = nI j)) → GW G X 6 M4 0 0 55 [(0, .ref (rd 0)), (1, .int (nI n)), (2, .int k), (3, .int (bI true))] [.int (bI g), .int (bI false), .ref (rd 0)] := by
    intro g hg
    refine g_iconst C dX6_count_55 (v := nI 0) rfl ?_
    refine g_callV (ci := 6) C dX6_count_56 cw_X6_56 rfl (r_refuse G rd S2 M4 P2 false g false) P2.ob rfl rfl (Nat.le_of_ble_eq_true rfl) (by decide) (by decide) (by decide) (by decide) (fun u M5 hq => ?_)
    obtain ⟨rfl, S5, P5, F5, A5⟩ := hq
    rw [Bool.or_false, Bool.false_or, hg]
    rw [hg] at A5
    exact cont S5 M5 P5 (F2.tr F5) (A5.RR0 R2) (by rw [A5.1]; exact w2) A5.at
  show GW G X 6 M4 0 0 47 _ [.int (bI (pB (∃ j, j < mny (gO a) n 512 ∧ k = nI j))), .int (nI 0), .ref (rd 0)]
  cases hb : pB (∃ j, j < mny (gO a) n 512 ∧ k = nI j) with
  | true =>
    rw [hb] at fin
    refine g_if_ne C dX6_count_47 (tgt := 54) (by decide) (fun _ => ?_) (fun q => absurd q (by decide))
    refine g_iconst C dX6_count_54 (v := nI 0) rfl ?_
    exact fin false rfl
  | false =>
    rw [hb] at fin
    refine g_if_ne C dX6_count_47 (tgt := 54) (by decide) (fun q => absurd (by decide) q) (fun _ => ?_)
    refine g_iconst C dX6_count_50 (v := nI 1) rfl ?_
    refine g_goto C dX6_count_51 (tgt := 55) (by decide) ?_
    exact fin true rfl

set_option maxHeartbeats 4000000 in
set_option maxRecDepth 100000 in
theorem r_count_k (G : fm_G) (rd : Nat → Nat) (S : Rs) (M : fm_M) (Pi : RPic G rd S M) (a : Ab) (ha : AbOk a) (h : RR a S) (n : Nat) (k : Int32) (hn : n < 5) (hk : ¬ ∃ j, j < mny (gO a) n 512 ∧ k = nI j) : fm_Ct G yX6_count cX6_count 6 (some .int) 5 123 0 0 [.ref (rd 0), .int (nI n), .int k] M (fun v M1 => ∃ S', v = some (.int (nI 0)) ∧ RPic G rd S' M1 ∧ RFr rd M M1 ∧ RR a S' ∧ S'.2 0 = nI 2) := by
  refine fm_head (by decide) (Nat.le_of_ble_eq_true rfl) rfl (fun X C N0 rt => ?_)
  refine l_rcount0 C Pi ha h hn (fun S1 M1 P1 F1 R1 w1 t1 => ?_)
  rw [pB_f hk] at t1 ⊢
  refine g_if_eq C dX6_count_59 (tgt := 64) (by decide) (fun q => absurd q (by decide)) (fun _ => ?_)
  refine g_iconst C dX6_count_62 (v := nI 0) rfl ?_
  exact rt (some (.int _)) M1 _ _ _ _ (fm_retI dX6_count_63) ⟨S1, rfl, P1, F1, R1, t1⟩ (Nat.le_refl _) (Nat.le_refl _)

set_option maxHeartbeats 4000000 in
set_option maxRecDepth 100000 in
theorem r_count (G : fm_G) (rd : Nat → Nat) (S : Rs) (M : fm_M) (Pi : RPic G rd S M) (a : Ab) (ha : AbOk a) (h : RR a S) (n k : Nat) (hn : n < 5) (hk : k < mny (gO a) n 512) : fm_Ct G yX6_count cX6_count 6 (some .int) 5 123 0 0 [.ref (rd 0), .int (nI n), .int (nI k)] M (fun v M1 => ∃ S' c, c < 512 ∧ Tr (gO a) n c ∧ mny (gO a) n c = k ∧ v = some (.int (nI c)) ∧ RPic G rd S' M1 ∧ RFr rd M M1 ∧ RR a S' ∧ S'.2 0 = nI 0) := by
  refine fm_head (by decide) (Nat.le_of_ble_eq_true rfl) rfl (fun X C N0 rt => ?_)
  refine l_rcount0 C Pi ha h hn (fun S1 M1 P1 F1 R1 w1 t1 => ?_)
  rw [pB_t ⟨k, hk, rfl⟩] at t1 ⊢
  refine g_if_eq C dX6_count_59 (tgt := 64) (by decide) (fun _ => ?_) (fun q => absurd (by decide) q)
  refine g_iconst C dX6_count_64 (v := nI 0) rfl ?_
  refine g_istore C dX6_count_65 (by decide) ?_
  refine g_iload_n C dX6_count_67 rfl ?_
  refine g_istore C dX6_count_68 (by decide) ?_
  refine g_loc [0, 1, 2, 4, 5] rfl ?_
  refine l_rcount C P1 w1 hn hk (fun v ls hv hT hm hls => ?_) 512 0 (by omega) (Nat.zero_le _)
  refine g_iload C dX6_count_124 hls ?_
  exact rt (some (.int _)) M1 _ _ _ _ (fm_retI dX6_count_126) ⟨S1, v, hv, hT, hm, rfl, P1, F1, R1, t1⟩ (Nat.le_refl _) (Nat.le_refl _)
theorem mny_uniq {g : Gr} {n c c' k : Nat} (h1 : Tr g n c) (h2 : mny g n c = k) (h3 : Tr g n c') (h4 : mny g n c' = k) : c = c' := by
  have lt : ∀ x y, x < y → Tr g n x → mny g n x < mny g n y := fun x y hxy hT => by
    have e : mny g n (x + 1) = mny g n x + 1 := by rw [mny_s, pB_t hT, if_pos rfl]
    have := cntq_mono (fun j => @decide (Tr g n j) (Classical.propDecidable _)) (show x + 1 ≤ y by omega)
    have : mny g n (x + 1) ≤ mny g n y := this
    omega
  rcases Nat.lt_trichotomy c c' with z | z | z
  · have := lt c c' z h1; omega
  · exact z
  · have := lt c' c z h3; omega

set_option maxHeartbeats 4000000 in
set_option maxRecDepth 100000 in
theorem st_in {a : Ab} {S : Rs} {k : Int32} (ha : AbOk a) (h : RR a S) : (decide (nI 0 ≤ k) && decide (k ≤ S.2 3 - nI 1)) = pB (∃ j, j < a.st ∧ k = nI j) := by
  have h5 := ha.2.2
  rcases h.2.2.1 with ⟨h0, h1⟩ | ⟨h0, h1⟩
  · rw [h1, h0, pB_f (fun ⟨j, z, _⟩ => absurd z (Nat.not_lt_zero j))]
    cases hb : (decide (nI 0 ≤ k) && decide (k ≤ -1 - nI 1)) with
    | false => rfl
    | true =>
      rw [Bool.and_eq_true, decide_eq_true_iff, decide_eq_true_iff, i_le, i_le] at hb
      have e1 : (nI 0).toInt = 0 := by decide
      have e2 : (-1 - nI 1 : Int32).toInt = -2 := by decide
      omega
  · rw [h1]; exact in_dn (by omega)
set_option maxHeartbeats 4000000 in
set_option maxRecDepth 100000 in
theorem l_rstep {G : fm_G} {rd : Nat → Nat} {S : Rs} {M : fm_M} {X : fm_X} {a : Ab} {k : Int32} (C : GC G X RX6 cX6_step 2 1 24 0 0) (Pi : RPic G rd S M) (ha : AbOk a) (h : RR a S) (cont : ∀ S1 M1, RPic G rd S1 M1 → RFr rd M M1 → rsI S S1 0 (nI (thq (!(pB (∃ j, j < a.st ∧ k = nI j))) false false)) → GW G X 2 M1 0 0 25 [(0, .ref (rd 0)), (1, .int k)] [.int (bI (!(pB (∃ j, j < a.st ∧ k = nI j))))]) : GW G X 2 M 0 0 0 [(0, .ref (rd 0)), (1, .int k)] [] := by
  refine g_aload_n C dX6_step_0 rfl ?_
  refine g_iload_n C dX6_step_1 rfl ?_
  refine g_iconst C dX6_step_2 (v := nI 0) rfl ?_
  refine g_aload_n C dX6_step_3 rfl ?_
  refine g_getf C fl_X6_26 dX6_step_4 Pi.ob rfl ?_
  refine g_iconst C dX6_step_7 (v := nI 1) rfl ?_
  refine g_isub C dX6_step_8 ?_
  refine g_callS C dX6_step_9 cw_X6_45 (r_in G M k (nI 0) (S.2 3 - nI 1)) rfl rfl (Nat.le_of_ble_eq_true rfl) (by decide) (by decide) (by decide) (by decide) (fun u M0 hq => ?_)
  obtain ⟨hM, rfl⟩ := hq
  rw [hM, st_in ha h]
  clear hM
  show GW G X 2 M 0 0 12 _ [.int (bI (pB (∃ j, j < a.st ∧ k = nI j))), .ref (rd 0)]
  have fin : ∀ g, g = !(pB (∃ j, j < a.st ∧ k = nI j)) → GW G X 2 M 0 0 20 [(0, .ref (rd 0)), (1, .int k)] [.int (bI g), .ref (rd 0)] := by
    intro g hg
    refine g_iconst C dX6_step_20 (v := nI 0) rfl ?_
    refine g_iconst C dX6_step_21 (v := nI 0) rfl ?_
    refine g_callV (ci := 6) C dX6_step_22 cw_X6_56 rfl (r_refuse G rd S M Pi g false false) Pi.ob rfl rfl (Nat.le_of_ble_eq_true rfl) (by decide) (by decide) (by decide) (by decide) (fun u M1 hq => ?_)
    obtain ⟨rfl, S1, P1, F1, A1⟩ := hq
    rw [Bool.or_false, Bool.or_false, hg]
    rw [hg] at A1
    exact cont S1 M1 P1 F1 A1
  cases hb : (pB (∃ j, j < a.st ∧ k = nI j)) with
  | true =>
    rw [hb] at fin
    refine g_if_ne C dX6_step_12 (tgt := 19) (by decide) (fun _ => ?_) (fun q => absurd q (by decide))
    refine g_iconst C dX6_step_19 (v := nI 0) rfl ?_
    exact fin false rfl
  | false =>
    rw [hb] at fin
    refine g_if_ne C dX6_step_12 (tgt := 19) (by decide) (fun q => absurd (by decide) q) (fun _ => ?_)
    refine g_iconst C dX6_step_15 (v := nI 1) rfl ?_
    refine g_goto C dX6_step_16 (tgt := 20) (by decide) ?_
    exact fin true rfl

set_option maxHeartbeats 4000000 in
set_option maxRecDepth 100000 in
theorem r_step_no (G : fm_G) (rd : Nat → Nat) (S : Rs) (M : fm_M) (Pi : RPic G rd S M) (a : Ab) (ha : AbOk a) (h : RR a S) (k : Int32) (hk : ¬ ∃ j, j < a.st ∧ k = nI j) : fm_Ct G yX6_step cX6_step 2 (some .int) 1 24 0 0 [.ref (rd 0), .int k] M (fun v M1 => ∃ S', v = some (.int (nI 0)) ∧ RPic G rd S' M1 ∧ RFr rd M M1 ∧ RR a S' ∧ S'.2 0 = nI 1) := by
  refine fm_head (by decide) (Nat.le_of_ble_eq_true rfl) rfl (fun X C N0 rt => ?_)
  refine l_rstep C Pi ha h (fun S1 M1 P1 F1 A1 => ?_)
  rw [pB_f hk] at A1 ⊢
  refine g_if_eq C dX6_step_25 (tgt := 32) (by decide) (fun q => absurd q (by decide)) (fun _ => ?_)
  refine g_iconst C dX6_step_28 (v := nI 0) rfl ?_
  refine g_goto C dX6_step_29 (tgt := 38) (by decide) ?_
  exact rt (some (.int _)) M1 _ _ _ _ (fm_retI dX6_step_38) ⟨S1, rfl, P1, F1, A1.RR0 h, A1.at⟩ (Nat.le_refl _) (Nat.le_refl _)

set_option maxHeartbeats 4000000 in
set_option maxRecDepth 100000 in
theorem r_step (G : fm_G) (rd : Nat → Nat) (S : Rs) (M : fm_M) (Pi : RPic G rd S M) (a : Ab) (ha : AbOk a) (h : RR a S) (k : Nat) (hk : k < a.st) : fm_Ct G yX6_step cX6_step 2 (some .int) 1 24 0 0 [.ref (rd 0), .int (nI k)] M (fun v M1 => ∃ S', v = some (.int (nI (a.sp k))) ∧ RPic G rd S' M1 ∧ RFr rd M M1 ∧ RR a S' ∧ S'.2 0 = nI 0) := by
  have h5 := ha.2.2
  refine fm_head (by decide) (Nat.le_of_ble_eq_true rfl) rfl (fun X C N0 rt => ?_)
  refine l_rstep C Pi ha h (fun S1 M1 P1 F1 A1 => ?_)
  rw [pB_t ⟨k, hk, rfl⟩] at A1 ⊢
  have e6 : S1.1 6 k = nI (a.sp k) := by rw [A1.1]; exact h.2.2.2.1 k hk
  refine g_if_eq C dX6_step_25 (tgt := 32) (by decide) (fun _ => ?_) (fun q => absurd (by decide) q)
  refine g_aload_n C dX6_step_32 rfl ?_
  refine g_getf C fl_X6_30 dX6_step_33 P1.ob rfl ?_
  refine g_iload_n C dX6_step_36 rfl ?_
  refine g_ialdN C dX6_step_37 P1.k6 (show k < 501 by omega) (by decide) ?_
  rw [e6]
  exact rt (some (.int _)) M1 _ _ _ _ (fm_retI dX6_step_38) ⟨S1, rfl, P1, F1, A1.RR0 h, A1.at⟩ (Nat.le_refl _) (Nat.le_refl _)

set_option maxHeartbeats 4000000 in
set_option maxRecDepth 100000 in
theorem l_ruse {G : fm_G} {rd : Nat → Nat} {S : Rs} {M : fm_M} {X : fm_X} {a : Ab} {r m : Int32} (C : GC G X RX6 cX6_use 4 1 24 0 0) (Pi : RPic G rd S M) (ha : AbOk a) (h : RR a S) (cont : ∀ S1 M1, RPic G rd S1 M1 → RFr rd M M1 → rsI S S1 0 (nI (thq (!(pB ((∃ j, j < a.nR ∧ r = nI j) ∧ ∃ j, j < 51 ∧ m = nI j))) false false)) → GW G X 4 M1 0 0 35 [(0, .ref (rd 0)), (1, .int r), (2, .int m)] [.int (bI (!(pB ((∃ j, j < a.nR ∧ r = nI j) ∧ ∃ j, j < 51 ∧ m = nI j))))]) : GW G X 4 M 0 0 0 [(0, .ref (rd 0)), (1, .int r), (2, .int m)] [] := by
  have h10 := ha.1
  have e0 : S.2 1 = nI a.nR := h.1.1
  have fin : ∀ g, g = !(pB ((∃ j, j < a.nR ∧ r = nI j) ∧ ∃ j, j < 51 ∧ m = nI j)) → GW G X 4 M 0 0 30 [(0, .ref (rd 0)), (1, .int r), (2, .int m)] [.int (bI g), .ref (rd 0)] := by
    intro g hg
    refine g_iconst C dX6_use_30 (v := nI 0) rfl ?_
    refine g_iconst C dX6_use_31 (v := nI 0) rfl ?_
    refine g_callV (ci := 6) C dX6_use_32 cw_X6_56 rfl (r_refuse G rd S M Pi g false false) Pi.ob rfl rfl (Nat.le_of_ble_eq_true rfl) (by decide) (by decide) (by decide) (by decide) (fun u M1 hq => ?_)
    obtain ⟨rfl, S1, P1, F1, A1⟩ := hq
    rw [Bool.or_false, Bool.or_false, hg]
    rw [hg] at A1
    exact cont S1 M1 P1 F1 A1
  refine g_aload_n C dX6_use_0 rfl ?_
  refine g_iload_n C dX6_use_1 rfl ?_
  refine g_iconst C dX6_use_2 (v := nI 0) rfl ?_
  refine g_aload_n C dX6_use_3 rfl ?_
  refine g_getf C fl_X6_53 dX6_use_4 Pi.ob rfl ?_
  rw [e0]
  refine g_iconst C dX6_use_7 (v := nI 1) rfl ?_
  refine g_isub C dX6_use_8 ?_
  refine g_callS C dX6_use_9 cw_X6_45 (r_in G M r (nI 0) (nI a.nR - nI 1)) rfl rfl (Nat.le_of_ble_eq_true rfl) (by decide) (by decide) (by decide) (by decide) (fun u M0 hq => ?_)
  obtain ⟨hM, rfl⟩ := hq
  rw [hM, in_dn (by omega)]
  clear hM
  show GW G X 4 M 0 0 12 _ [.int (bI (pB (∃ j, j < a.nR ∧ r = nI j))), .ref (rd 0)]
  by_cases h1 : ∃ j, j < a.nR ∧ r = nI j
  rotate_left
  · rw [pB_f (fun z => h1 z.1)] at fin
    rw [pB_f h1]
    refine g_if_eq C dX6_use_12 (tgt := 25) (by decide) (fun _ => ?_) (fun q => absurd (by decide) q)
    refine g_iconst C dX6_use_25 (v := nI 1) rfl ?_
    refine g_goto C dX6_use_26 (tgt := 30) (by decide) ?_
    exact fin true rfl
  rw [pB_t h1]
  refine g_if_eq C dX6_use_12 (tgt := 25) (by decide) (fun q => absurd q (by decide)) (fun _ => ?_)
  refine g_iload_n C dX6_use_15 rfl ?_
  refine g_iconst C dX6_use_16 (v := nI 0) rfl ?_
  refine g_bipush C dX6_use_17 (v := nI 50) rfl ?_
  refine g_callS C dX6_use_19 cw_X6_45 (r_in G M m (nI 0) (nI 50)) rfl rfl (Nat.le_of_ble_eq_true rfl) (by decide) (by decide) (by decide) (by decide) (fun u M0 hq => ?_)
  obtain ⟨hM, rfl⟩ := hq
  rw [hM, pB_of (ok_in (x := m) (n := 50) (P := ∃ j, j < 51 ∧ m = nI j) (by decide) Iff.rfl rfl)]
  clear hM
  show GW G X 4 M 0 0 22 _ [.int (bI (pB (∃ j, j < 51 ∧ m = nI j))), .ref (rd 0)]
  by_cases h2 : ∃ j, j < 51 ∧ m = nI j
  · rw [pB_t ⟨h1, h2⟩] at fin
    rw [pB_t h2]
    refine g_if_ne C dX6_use_22 (tgt := 29) (by decide) (fun _ => ?_) (fun q => absurd q (by decide))
    refine g_iconst C dX6_use_29 (v := nI 0) rfl ?_
    exact fin false rfl
  · rw [pB_f (fun z => h2 z.2)] at fin
    rw [pB_f h2]
    refine g_if_ne C dX6_use_22 (tgt := 29) (by decide) (fun q => absurd (by decide) q) (fun _ => ?_)
    refine g_iconst C dX6_use_25 (v := nI 1) rfl ?_
    refine g_goto C dX6_use_26 (tgt := 30) (by decide) ?_
    exact fin true rfl

set_option maxHeartbeats 4000000 in
set_option maxRecDepth 100000 in
theorem r_use_no (G : fm_G) (rd : Nat → Nat) (S : Rs) (M : fm_M) (Pi : RPic G rd S M) (a : Ab) (ha : AbOk a) (h : RR a S) (r m : Int32) (hk : ¬ ((∃ j, j < a.nR ∧ r = nI j) ∧ ∃ j, j < 51 ∧ m = nI j)) : fm_Ct G yX6_use cX6_use 4 (some .int) 1 24 0 0 [.ref (rd 0), .int r, .int m] M (fun v M1 => ∃ S', v = some (.int (nI 0)) ∧ RPic G rd S' M1 ∧ RFr rd M M1 ∧ RR a S' ∧ S'.2 0 = nI 1) := by
  refine fm_head (by decide) (Nat.le_of_ble_eq_true rfl) rfl (fun X C N0 rt => ?_)
  refine l_ruse C Pi ha h (fun S1 M1 P1 F1 A1 => ?_)
  rw [pB_f hk] at A1 ⊢
  refine g_if_eq C dX6_use_35 (tgt := 40) (by decide) (fun q => absurd q (by decide)) (fun _ => ?_)
  refine g_iconst C dX6_use_38 (v := nI 0) rfl ?_
  exact rt (some (.int _)) M1 _ _ _ _ (fm_retI dX6_use_39) ⟨S1, rfl, P1, F1, A1.RR0 h, A1.at⟩ (Nat.le_refl _) (Nat.le_refl _)

set_option maxHeartbeats 4000000 in
set_option maxRecDepth 100000 in
theorem r_use (G : fm_G) (rd : Nat → Nat) (S : Rs) (M : fm_M) (Pi : RPic G rd S M) (a : Ab) (ha : AbOk a) (h : RR a S) (r m : Nat) (hr : r < a.nR) (hm : m ≤ 50) : fm_Ct G yX6_use cX6_use 4 (some .int) 1 24 0 0 [.ref (rd 0), .int (nI r), .int (nI m)] M (fun v M1 => ∃ S', v = some (.int (nI (a.us r))) ∧ RPic G rd S' M1 ∧ RFr rd M M1 ∧ RR (a.nR, a.lf, a.sy, updN a.us r m, a.st, a.sp) S' ∧ S'.2 0 = nI 0) := by
  have h10 := ha.1
  obtain ⟨q1, q2, q3, q4, q5⟩ := h
  refine fm_head (by decide) (Nat.le_of_ble_eq_true rfl) rfl (fun X C N0 rt => ?_)
  refine l_ruse C Pi ha ⟨q1, q2, q3, q4, q5⟩ (fun S1 M1 P1 F1 A1 => ?_)
  rw [pB_t ⟨⟨r, hr, rfl⟩, ⟨m, by omega, rfl⟩⟩] at A1 ⊢
  have e3 : S1.1 3 r = nI (a.us r) := by rw [A1.1]; exact q2 r hr
  refine g_if_eq C dX6_use_35 (tgt := 40) (by decide) (fun _ => ?_) (fun q => absurd (by decide) q)
  refine g_aload_n C dX6_use_40 rfl ?_
  refine g_getf C fl_X6_16 dX6_use_41 P1.ob rfl ?_
  refine g_iload_n C dX6_use_44 rfl ?_
  refine g_ialdN C dX6_use_45 P1.k3 (show r < 10 by omega) (by decide) ?_
  rw [e3]
  refine g_istore_n C dX6_use_46 (by decide) ?_
  refine g_aload_n C dX6_use_47 rfl ?_
  refine g_getf C fl_X6_16 dX6_use_48 P1.ob rfl ?_
  refine g_iload_n C dX6_use_51 rfl ?_
  refine g_iload_n C dX6_use_52 rfl ?_
  refine g_iastN C dX6_use_53 P1.k3 (show r < 10 by omega) (by decide) ?_
  refine g_abs (fun M' => ∃ S2, RPic G rd S2 M' ∧ RFr rd M M' ∧ raI S1 S2 3 (upd (S1.1 3) r (nI m))) ⟨_, P1.ar (n := 10) (by decide) (by decide) _ rfl, F1.st (k := 3) (by decide), rfl, rfl⟩ (fun M2 ⟨S2, P2, F2, A2⟩ => ?_)
  have sc : ∀ i, i ≠ 0 → S2.2 i = S.2 i := fun i hi => by rw [A2.2, A1.ne hi]
  have ar : ∀ k, k ≠ 3 → S2.1 k = S.1 k := fun k hk => by rw [A2.ne hk, A1.1]
  refine g_iload_n C dX6_use_54 rfl ?_
  refine rt (some (.int _)) M2 _ _ _ _ (fm_retI dX6_use_55) ⟨S2, rfl, P2, F2, ⟨q1.of (sc 1 (by decide)) (ar 1 (by decide)) (ar 2 (by decide)), fun r' hr' => ?_, ?_, fun t ht => ?_, ?_⟩, ?_⟩ (Nat.le_refl _) (Nat.le_refl _)
  · have hr2 : r' < a.nR := hr'
    show S2.1 3 r' = nI (if r' = r then m else a.us r')
    rw [A2.at, A1.1]
    by_cases he : r' = r
    · subst he; rw [pk_us, if_pos rfl]
    · rw [pk_un he, if_neg he]; exact q2 r' hr2
  · rw [sc 3 (by decide)]; exact q3
  · rw [ar 6 (by decide)]; exact q4 t ht
  · rw [sc 2 (by decide), ar 4 (by decide)]; exact q5
  · rw [A2.2, A1.at]; rfl

set_option maxHeartbeats 4000000 in
set_option maxRecDepth 100000 in
theorem r_derive_no (G : fm_G) (rd : Nat → Nat) (S : Rs) (M : fm_M) (Pi : RPic G rd S M) (a : Ab) (ha : AbOk a) (h : RR a S) (n x y z : Int32) (hn : ¬ (okN n ∧ okM x ∧ okM y ∧ okM z)) : fm_Ct G yX6_derive cX6_derive 9 (some .int) 5 123 0 0 [.ref (rd 0), .int n, .int x, .int y, .int z] M (fun v M1 => ∃ S', v = some (.int (nI 0)) ∧ RPic G rd S' M1 ∧ RFr rd M M1 ∧ RR a S' ∧ S'.2 0 = nI 1) := by
  refine fm_head (by decide) (Nat.le_of_ble_eq_true rfl) rfl (fun X C N0 rt => ?_)
  refine g_iload_n C dX6_derive_0 rfl ?_
  refine g_iload_n C dX6_derive_1 rfl ?_
  refine g_iload_n C dX6_derive_2 rfl ?_
  refine g_iload C dX6_derive_3 rfl ?_
  refine g_callS C dX6_derive_5 cw_X6_91 (r_isCount G M n x y z) rfl rfl (Nat.le_of_ble_eq_true rfl) (by decide) (by decide) (by decide) (by decide) (fun u M0 hq => ?_)
  obtain ⟨hM, rfl⟩ := hq
  rw [hM, pB_f hn]
  clear hM
  show GW G X 9 M 0 0 8 _ [.int (bI false)]
  refine g_istore C dX6_derive_8 (by decide) ?_
  refine g_iload C dX6_derive_10 rfl ?_
  refine g_if_eq C dX6_derive_12 (tgt := 19) (by decide) (fun _ => ?_) (fun q => absurd (by decide) q)
  refine g_iload_n C dX6_derive_19 rfl ?_
  refine g_bipush C dX6_derive_20 (v := nI 8) rfl ?_
  refine g_iload_n C dX6_derive_22 rfl ?_
  refine g_imul C dX6_derive_23 ?_
  refine g_iadd C dX6_derive_24 ?_
  refine g_bipush C dX6_derive_25 (v := nI 64) rfl ?_
  refine g_iload C dX6_derive_27 rfl ?_
  refine g_imul C dX6_derive_29 ?_
  refine g_iadd C dX6_derive_30 ?_
  refine g_istore C dX6_derive_31 (by decide) ?_
  refine g_iload C dX6_derive_33 rfl ?_
  refine g_if_eq C dX6_derive_35 (tgt := 58) (by decide) (fun _ => ?_) (fun q => absurd (by decide) q)
  refine g_iconst C dX6_derive_58 (v := nI 0) rfl ?_
  refine g_istore C dX6_derive_59 (by decide) ?_
  refine g_aload_n C dX6_derive_61 rfl ?_
  refine g_iload C dX6_derive_62 rfl ?_
  refine g_if_ne C dX6_derive_64 (tgt := 71) (by decide) (fun q => absurd (by decide) q) (fun _ => ?_)
  refine g_iconst C dX6_derive_67 (v := nI 1) rfl ?_
  refine g_goto C dX6_derive_68 (tgt := 72) (by decide) ?_
  refine g_iload C dX6_derive_72 rfl ?_
  refine g_if_ne C dX6_derive_74 (tgt := 81) (by decide) (fun q => absurd (by decide) q) (fun _ => ?_)
  refine g_iconst C dX6_derive_77 (v := nI 1) rfl ?_
  refine g_goto C dX6_derive_78 (tgt := 82) (by decide) ?_
  refine g_iload C dX6_derive_82 rfl ?_
  refine g_if_eq C dX6_derive_84 (tgt := 101) (by decide) (fun _ => ?_) (fun q => absurd (by decide) q)
  refine g_iconst C dX6_derive_101 (v := nI 0) rfl ?_
  refine g_callV (ci := 6) C dX6_derive_102 cw_X6_56 rfl (r_refuse G rd S M Pi true true false) Pi.ob rfl rfl (Nat.le_of_ble_eq_true rfl) (by decide) (by decide) (by decide) (by decide) (fun u M1 hq => ?_)
  obtain ⟨rfl, S1, P1, F1, A1⟩ := hq
  show GW G X 9 M1 0 0 105 _ [.int (bI true)]
  refine g_if_eq C dX6_derive_105 (tgt := 110) (by decide) (fun q => absurd q (by decide)) (fun _ => ?_)
  refine g_iconst C dX6_derive_108 (v := nI 0) rfl ?_
  exact rt (some (.int _)) M1 _ _ _ _ (fm_retI dX6_derive_109) ⟨S1, rfl, P1, F1, A1.RR0 h, A1.at⟩ (Nat.le_refl _) (Nat.le_refl _)

set_option maxHeartbeats 4000000 in
set_option maxRecDepth 100000 in
theorem l_rderive {G : fm_G} {rd : Nat → Nat} {S : Rs} {M : fm_M} {X : fm_X} {a : Ab} {n x y z c : Nat} (C : GC G X RX6 cX6_derive 9 5 123 0 0) (Pi : RPic G rd S M) (ha : AbOk a) (h : RR a S) (hn : n < 5) (hx : x < 8) (hy : y < 8) (hz : z < 8) (hcc : x + 8 * y + 64 * z = c) (cont : ∀ S1 M1 t, t = pB (Tr (gO a) n c) → RPic G rd S1 M1 → RFr rd M M1 → RR a S1 → hwI (gO a) (S1.1 4) → GW G X 9 M1 0 0 61 [(0, .ref (rd 0)), (1, .int (nI n)), (2, .int (nI x)), (3, .int (nI y)), (4, .int (nI z)), (5, .int (bI true)), (6, .int (nI c)), (7, .int (bI t))] []) : GW G X 9 M 0 0 0 [(0, .ref (rd 0)), (1, .int (nI n)), (2, .int (nI x)), (3, .int (nI y)), (4, .int (nI z))] [] := by
  have hok : okN (nI n) ∧ okM (nI x) ∧ okM (nI y) ∧ okM (nI z) := ⟨⟨n, hn, rfl⟩, ⟨x, hx, rfl⟩, ⟨y, hy, rfl⟩, ⟨z, hz, rfl⟩⟩
  have hc : c < 512 := by omega
  refine g_iload_n C dX6_derive_0 rfl ?_
  refine g_iload_n C dX6_derive_1 rfl ?_
  refine g_iload_n C dX6_derive_2 rfl ?_
  refine g_iload C dX6_derive_3 rfl ?_
  refine g_callS C dX6_derive_5 cw_X6_91 (r_isCount G M (nI n) (nI x) (nI y) (nI z)) rfl rfl (Nat.le_of_ble_eq_true rfl) (by decide) (by decide) (by decide) (by decide) (fun u M0 hq => ?_)
  obtain ⟨hM, rfl⟩ := hq
  rw [hM, pB_t hok]
  clear hM
  show GW G X 9 M 0 0 8 _ [.int (bI true)]
  refine g_istore C dX6_derive_8 (by decide) ?_
  refine g_iload C dX6_derive_10 rfl ?_
  refine g_if_eq C dX6_derive_12 (tgt := 19) (by decide) (fun q => absurd q (by decide)) (fun _ => ?_)
  refine g_aload_n C dX6_derive_15 rfl ?_
  refine g_callV (ci := 6) C dX6_derive_16 cw_X6_95 rfl (r_reckon G rd S M Pi a ha h) Pi.ob rfl rfl (Nat.le_of_ble_eq_true rfl) (by decide) (by decide) (by decide) (by decide) (fun u M2 hq => ?_)
  obtain ⟨rfl, S2, P2, F2, R2, w2, t2⟩ := hq
  obtain ⟨hp1, hp2⟩ := hw_pos w2 hn hc
  show GW G X 9 M2 0 0 19 _ []
  refine g_iload_n C dX6_derive_19 rfl ?_
  refine g_bipush C dX6_derive_20 (v := nI 8) rfl ?_
  refine g_iload_n C dX6_derive_22 rfl ?_
  refine g_imul C dX6_derive_23 ?_
  refine g_topI (pk_mul 8 y) ?_
  refine g_iadd C dX6_derive_24 ?_
  refine g_topI (nI_add _ _) ?_
  refine g_bipush C dX6_derive_25 (v := nI 64) rfl ?_
  refine g_iload C dX6_derive_27 rfl ?_
  refine g_imul C dX6_derive_29 ?_
  refine g_topI (pk_mul 64 z) ?_
  refine g_iadd C dX6_derive_30 ?_
  refine g_topI (nI_add _ _) ?_
  rw [hcc]
  refine g_istore C dX6_derive_31 (by decide) ?_
  refine g_iload C dX6_derive_33 rfl ?_
  refine g_if_eq C dX6_derive_35 (tgt := 58) (by decide) (fun q => absurd q (by decide)) (fun _ => ?_)
  refine g_aload_n C dX6_derive_38 rfl ?_
  refine g_getf C fl_X6_19 dX6_derive_39 P2.ob rfl ?_
  refine g_sipush C dX6_derive_42 (v := nI 512) rfl ?_
  refine g_iload_n C dX6_derive_45 rfl ?_
  refine g_imul C dX6_derive_46 ?_
  refine g_topI (pk_mul 512 n) ?_
  refine g_iload C dX6_derive_47 rfl ?_
  refine g_iadd C dX6_derive_49 ?_
  refine g_topI (nI_add _ _) ?_
  refine g_ialdN C dX6_derive_50 P2.k4 (show 512 * n + c < 2560 by omega) (by decide) ?_
  refine g_if_le C dX6_derive_51 (tgt := 58) (by decide) (fun h1 => ?_) (fun h1 => ?_)
  · skip
    refine g_iconst C dX6_derive_58 (v := nI 0) rfl ?_
    refine g_istore C dX6_derive_59 (by decide) ?_
    exact cont S2 M2 false (pB_f (fun q => hp1.mpr q h1)).symm P2 F2 R2 w2
  · skip
    refine g_iconst C dX6_derive_54 (v := nI 1) rfl ?_
    refine g_goto C dX6_derive_55 (tgt := 59) (by decide) ?_
    refine g_istore C dX6_derive_59 (by decide) ?_
    exact cont S2 M2 true (pB_t (hp1.mp h1)).symm P2 F2 R2 w2

set_option maxHeartbeats 4000000 in
set_option maxRecDepth 100000 in
theorem r_derive_N (G : fm_G) (rd : Nat → Nat) (S : Rs) (M : fm_M) (Pi : RPic G rd S M) (a : Ab) (ha : AbOk a) (h : RR a S) (n x y z : Nat) (hn : n < 5) (hx : x < 8) (hy : y < 8) (hz : z < 8) (hT : ¬ Tr (gO a) n (x + 8 * y + 64 * z)) : fm_Ct G yX6_derive cX6_derive 9 (some .int) 5 123 0 0 [.ref (rd 0), .int (nI n), .int (nI x), .int (nI y), .int (nI z)] M (fun v M1 => ∃ S', v = some (.int (nI 0)) ∧ RPic G rd S' M1 ∧ RFr rd M M1 ∧ RR a S' ∧ S'.2 0 = nI 2) := by
  refine fm_head (by decide) (Nat.le_of_ble_eq_true rfl) rfl (fun X C N0 rt => ?_)
  refine l_rderive C Pi ha h hn hx hy hz rfl (fun S1 M1 t ht P1 F1 R1 w1 => ?_)
  rw [pB_f hT] at ht
  subst ht
  refine g_aload_n C dX6_derive_61 rfl ?_
  refine g_iload C dX6_derive_62 rfl ?_
  refine g_if_ne C dX6_derive_64 (tgt := 71) (by decide) (fun _ => ?_) (fun q => absurd q (by decide))
  refine g_iconst C dX6_derive_71 (v := nI 0) rfl ?_
  refine g_iload C dX6_derive_72 rfl ?_
  refine g_if_ne C dX6_derive_74 (tgt := 81) (by decide) (fun q => absurd (by decide) q) (fun _ => ?_)
  refine g_iconst C dX6_derive_77 (v := nI 1) rfl ?_
  refine g_goto C dX6_derive_78 (tgt := 82) (by decide) ?_
  refine g_iload C dX6_derive_82 rfl ?_
  refine g_if_eq C dX6_derive_84 (tgt := 101) (by decide) (fun _ => ?_) (fun q => absurd (by decide) q)
  refine g_iconst C dX6_derive_101 (v := nI 0) rfl ?_
  refine g_callV (ci := 6) C dX6_derive_102 cw_X6_56 rfl (r_refuse G rd S1 M1 P1 false true false) P1.ob rfl rfl (Nat.le_of_ble_eq_true rfl) (by decide) (by decide) (by decide) (by decide) (fun u M2 hq => ?_)
  obtain ⟨rfl, S2, P2, F2, A2⟩ := hq
  show GW G X 9 M2 0 0 105 _ [.int (bI true)]
  refine g_if_eq C dX6_derive_105 (tgt := 110) (by decide) (fun q => absurd q (by decide)) (fun _ => ?_)
  refine g_iconst C dX6_derive_108 (v := nI 0) rfl ?_
  exact rt (some (.int _)) M2 _ _ _ _ (fm_retI dX6_derive_109) ⟨S2, rfl, P2, F1.tr F2, A2.RR0 R1, A2.at⟩ (Nat.le_refl _) (Nat.le_refl _)

set_option maxHeartbeats 4000000 in
set_option maxRecDepth 100000 in
theorem r_derive_U (G : fm_G) (rd : Nat → Nat) (S : Rs) (M : fm_M) (Pi : RPic G rd S M) (a : Ab) (ha : AbOk a) (h : RR a S) (n x y z : Nat) (hn : n < 5) (hx : x < 8) (hy : y < 8) (hz : z < 8) (hT : Tr (gO a) n (x + 8 * y + 64 * z)) (hG : ¬ ∃ T, Gd (gO a) n (x + 8 * y + 64 * z) T) : fm_Ct G yX6_derive cX6_derive 9 (some .int) 5 123 0 0 [.ref (rd 0), .int (nI n), .int (nI x), .int (nI y), .int (nI z)] M (fun v M1 => ∃ S', v = some (.int (nI 0)) ∧ RPic G rd S' M1 ∧ RFr rd M M1 ∧ RR a S' ∧ S'.2 0 = nI 3) := by
  refine fm_head (by decide) (Nat.le_of_ble_eq_true rfl) rfl (fun X C N0 rt => ?_)
  refine l_rderive C Pi ha h hn hx hy hz rfl (fun S1 M1 t ht P1 F1 R1 w1 => ?_)
  rw [pB_t hT] at ht
  subst ht
  refine g_aload_n C dX6_derive_61 rfl ?_
  refine g_iload C dX6_derive_62 rfl ?_
  refine g_if_ne C dX6_derive_64 (tgt := 71) (by decide) (fun _ => ?_) (fun q => absurd q (by decide))
  refine g_iconst C dX6_derive_71 (v := nI 0) rfl ?_
  refine g_iload C dX6_derive_72 rfl ?_
  refine g_if_ne C dX6_derive_74 (tgt := 81) (by decide) (fun _ => ?_) (fun q => absurd q (by decide))
  refine g_iconst C dX6_derive_81 (v := nI 0) rfl ?_
  refine g_iload C dX6_derive_82 rfl ?_
  refine g_if_eq C dX6_derive_84 (tgt := 101) (by decide) (fun q => absurd q (by decide)) (fun _ => ?_)
  refine g_aload_n C dX6_derive_87 rfl ?_
  refine g_iload_n C dX6_derive_88 rfl ?_
  refine g_iload C dX6_derive_89 rfl ?_
  refine g_callV (ci := 6) C dX6_derive_91 cw_X6_116 rfl (r_write G rd S1 M1 P1 a ha R1.1 w1 n (x + 8 * y + 64 * z) hn (by omega) hT) P1.ob rfl rfl (Nat.le_of_ble_eq_true rfl) (by decide) (by decide) (by decide) (by decide) (fun u M2 hq => ?_)
  obtain ⟨b, S2, rfl, P2, F2, E2, I2⟩ := hq
  have hb : b = false := by
    cases b with
    | false => rfl
    | true => exact absurd ((I2.1 rfl).elim (fun T q => ⟨T, q.1⟩)) hG
  subst hb
  show GW G X 9 M2 0 0 94 _ [.int (bI false), .int (nI 0), .int (nI 0), .ref (rd 0)]
  refine g_if_ne C dX6_derive_94 (tgt := 101) (by decide) (fun q => absurd (by decide) q) (fun _ => ?_)
  refine g_iconst C dX6_derive_97 (v := nI 1) rfl ?_
  refine g_goto C dX6_derive_98 (tgt := 102) (by decide) ?_
  refine g_callV (ci := 6) C dX6_derive_102 cw_X6_56 rfl (r_refuse G rd S2 M2 P2 false false true) P2.ob rfl rfl (Nat.le_of_ble_eq_true rfl) (by decide) (by decide) (by decide) (by decide) (fun u M3 hq => ?_)
  obtain ⟨rfl, S3, P3, F3, A3⟩ := hq
  show GW G X 9 M3 0 0 105 _ [.int (bI true)]
  refine g_if_eq C dX6_derive_105 (tgt := 110) (by decide) (fun q => absurd q (by decide)) (fun _ => ?_)
  refine g_iconst C dX6_derive_108 (v := nI 0) rfl ?_
  exact rt (some (.int _)) M3 _ _ _ _ (fm_retI dX6_derive_109) ⟨S3, rfl, P3, (F1.tr F2).tr F3, A3.RR0 (E2.RR R1), A3.at⟩ (Nat.le_refl _) (Nat.le_refl _)

set_option maxHeartbeats 4000000 in
set_option maxRecDepth 100000 in
theorem l_rd1 {G : fm_G} {rd : Nat → Nat} {S : Rs} {M : fm_M} {X : fm_X} {fr lo mc ms : Nat} {T : Nat} (C : GC G X RX6 cX6_derive 9 fr lo mc ms) (hT : T ≤ 500) (e3 : S.2 3 = nI T) (kk : ∀ S' M1, RPic G rd S' M1 → RFr rd M M1 → S'.2 = S.2 → (∀ k, k ≠ 6 → S'.1 k = S.1 k) → (∀ s, s < T → S'.1 6 s = S.1 7 s) → GW G X 9 M1 0 0 150 [(0, .ref (rd 0))] []) : ∀ d i S1 M1, i + d = T → RPic G rd S1 M1 → RFr rd M M1 → S1.2 = S.2 → (∀ k, k ≠ 6 → S1.1 k = S.1 k) → (∀ s, s < i → S1.1 6 s = S.1 7 s) → GW G X 9 M1 0 0 121 [(0, .ref (rd 0)), (8, .int (nI i))] [] := by
  intro d
  induction d with
  | zero =>
    intro i S1 M1 hi P1 F1 E1 K1 I1
    have e : i = T := by omega
    subst e
    have e3' : S1.2 3 = nI i := by rw [E1]; exact e3
    refine g_iload C dX6_derive_121 rfl ?_
    refine g_aload_n C dX6_derive_123 rfl ?_
    refine g_getf C fl_X6_26 dX6_derive_124 P1.ob rfl ?_
    rw [e3']
    refine g_icmp_geN C dX6_derive_127 (tgt := 150) (by decide) (by omega) (by omega) (fun hb => g_loc [0] rfl (kk S1 M1 P1 F1 E1 K1 I1)) (fun hb => absurd hb (by omega))
  | succ d ih =>
    intro i S1 M1 hi P1 F1 E1 K1 I1
    have e3' : S1.2 3 = nI T := by rw [E1]; exact e3
    refine g_iload C dX6_derive_121 rfl ?_
    refine g_aload_n C dX6_derive_123 rfl ?_
    refine g_getf C fl_X6_26 dX6_derive_124 P1.ob rfl ?_
    rw [e3']
    refine g_icmp_geN C dX6_derive_127 (tgt := 150) (by decide) (by omega) (by omega) (fun hb => absurd hb (by omega)) (fun hb => ?_)
    refine g_aload_n C dX6_derive_130 rfl ?_
    refine g_getf C fl_X6_30 dX6_derive_131 P1.ob rfl ?_
    refine g_iload C dX6_derive_134 rfl ?_
    refine g_aload_n C dX6_derive_136 rfl ?_
    refine g_getf C fl_X6_33 dX6_derive_137 P1.ob rfl ?_
    refine g_iload C dX6_derive_140 rfl ?_
    refine g_ialdN C dX6_derive_142 P1.k7 (show i < 501 by omega) (by decide) ?_
    refine g_iastN C dX6_derive_143 P1.k6 (show i < 501 by omega) (by decide) ?_
    refine g_abs (fun M' => ∃ S2, RPic G rd S2 M' ∧ RFr rd M M' ∧ raI S1 S2 6 (upd (S1.1 6) i (S1.1 7 i))) ⟨_, P1.ar (n := 501) (by decide) (by decide) _ rfl, F1.st (k := 6) (by decide), rfl, rfl⟩ (fun M2 ⟨S2, P2, F2, A2⟩ => ?_)
    refine g_inc1 C dX6_derive_144 rfl (by decide) ?_
    refine g_goto C dX6_derive_147 (tgt := 121) (by decide) ?_
    refine ih (i + 1) S2 M2 (by omega) P2 F2 (A2.2.trans E1) (fun k hk => (A2.ne hk).trans (K1 k hk)) (fun s hs => ?_)
    rw [A2.at]
    by_cases he : s = i
    · subst he; rw [pk_us, K1 7 (by decide)]
    · rw [pk_un he]; exact I1 s (by omega)

set_option maxHeartbeats 4000000 in
set_option maxRecDepth 100000 in
theorem l_rd2 {G : fm_G} {rd : Nat → Nat} {S : Rs} {M : fm_M} {X : fm_X} {fr lo mc ms : Nat} (C : GC G X RX6 cX6_derive 9 fr lo mc ms) (kk : ∀ S' M1, RPic G rd S' M1 → RFr rd M M1 → S'.2 = S.2 → (∀ k, k ≠ 3 → S'.1 k = S.1 k) → (∀ r, r < 10 → S'.1 3 r = S.1 8 r) → GW G X 9 M1 0 0 180 [(0, .ref (rd 0))] []) : ∀ d i S1 M1, i + d = 10 → RPic G rd S1 M1 → RFr rd M M1 → S1.2 = S.2 → (∀ k, k ≠ 3 → S1.1 k = S.1 k) → (∀ r, r < i → S1.1 3 r = S.1 8 r) → GW G X 9 M1 0 0 153 [(0, .ref (rd 0)), (8, .int (nI i))] [] := by
  intro d
  induction d with
  | zero =>
    intro i S1 M1 hi P1 F1 E1 K1 I1
    have e : i = 10 := by omega
    subst e
    refine g_iload C dX6_derive_153 rfl ?_
    refine g_bipush C dX6_derive_155 (v := nI 10) rfl ?_
    refine g_icmp_geN C dX6_derive_157 (tgt := 180) (by decide) (by decide) (by decide) (fun hb => g_loc [0] rfl (kk S1 M1 P1 F1 E1 K1 I1)) (fun hb => absurd hb (by omega))
  | succ d ih =>
    intro i S1 M1 hi P1 F1 E1 K1 I1
    refine g_iload C dX6_derive_153 rfl ?_
    refine g_bipush C dX6_derive_155 (v := nI 10) rfl ?_
    refine g_icmp_geN C dX6_derive_157 (tgt := 180) (by decide) (by omega) (by decide) (fun hb => absurd hb (by omega)) (fun hb => ?_)
    refine g_aload_n C dX6_derive_160 rfl ?_
    refine g_getf C fl_X6_16 dX6_derive_161 P1.ob rfl ?_
    refine g_iload C dX6_derive_164 rfl ?_
    refine g_aload_n C dX6_derive_166 rfl ?_
    refine g_getf C fl_X6_36 dX6_derive_167 P1.ob rfl ?_
    refine g_iload C dX6_derive_170 rfl ?_
    refine g_ialdN C dX6_derive_172 P1.k8 (show i < 10 by omega) (by decide) ?_
    refine g_iastN C dX6_derive_173 P1.k3 (show i < 10 by omega) (by decide) ?_
    refine g_abs (fun M' => ∃ S2, RPic G rd S2 M' ∧ RFr rd M M' ∧ raI S1 S2 3 (upd (S1.1 3) i (S1.1 8 i))) ⟨_, P1.ar (n := 10) (by decide) (by decide) _ rfl, F1.st (k := 3) (by decide), rfl, rfl⟩ (fun M2 ⟨S2, P2, F2, A2⟩ => ?_)
    refine g_inc1 C dX6_derive_174 rfl (by decide) ?_
    refine g_goto C dX6_derive_177 (tgt := 153) (by decide) ?_
    refine ih (i + 1) S2 M2 (by omega) P2 F2 (A2.2.trans E1) (fun k hk => (A2.ne hk).trans (K1 k hk)) (fun s hs => ?_)
    rw [A2.at]
    by_cases he : s = i
    · subst he; rw [pk_us, K1 8 (by decide)]
    · rw [pk_un he]; exact I1 s (by omega)

set_option maxHeartbeats 4000000 in
set_option maxRecDepth 100000 in
theorem r_derive (G : fm_G) (rd : Nat → Nat) (S : Rs) (M : fm_M) (Pi : RPic G rd S M) (a : Ab) (ha : AbOk a) (h : RR a S) (n x y z T : Nat) (hn : n < 5) (hx : x < 8) (hy : y < 8) (hz : z < 8) (hT : Tr (gO a) n (x + 8 * y + 64 * z)) (hG : Gd (gO a) n (x + 8 * y + 64 * z) T) : fm_Ct G yX6_derive cX6_derive 9 (some .int) 5 123 0 0 [.ref (rd 0), .int (nI n), .int (nI x), .int (nI y), .int (nI z)] M (fun v M1 => ∃ S', v = some (.int (nI T)) ∧ RPic G rd S' M1 ∧ RFr rd M M1 ∧ RR (a.nR, a.lf, a.sy, us (gO a) n (x + 8 * y + 64 * z) T, T, tr (gO a) n (x + 8 * y + 64 * z)) S' ∧ S'.2 0 = nI 0) := by
  have h10 := ha.1
  have hT5 := hG.2.1
  have hpos : 0 < T := Nat.pos_of_ne_zero (fun q => by have := hG.1; rw [q] at this; exact absurd this (by show ¬ (1 = 0); decide))
  refine fm_head (by decide) (Nat.le_of_ble_eq_true rfl) rfl (fun X C N0 rt => ?_)
  refine l_rderive C Pi ha h hn hx hy hz rfl (fun S1 M1 t ht P1 F1 R1 w1 => ?_)
  rw [pB_t hT] at ht
  subst ht
  refine g_aload_n C dX6_derive_61 rfl ?_
  refine g_iload C dX6_derive_62 rfl ?_
  refine g_if_ne C dX6_derive_64 (tgt := 71) (by decide) (fun _ => ?_) (fun q => absurd q (by decide))
  refine g_iconst C dX6_derive_71 (v := nI 0) rfl ?_
  refine g_iload C dX6_derive_72 rfl ?_
  refine g_if_ne C dX6_derive_74 (tgt := 81) (by decide) (fun _ => ?_) (fun q => absurd q (by decide))
  refine g_iconst C dX6_derive_81 (v := nI 0) rfl ?_
  refine g_iload C dX6_derive_82 rfl ?_
  refine g_if_eq C dX6_derive_84 (tgt := 101) (by decide) (fun q => absurd q (by decide)) (fun _ => ?_)
  refine g_aload_n C dX6_derive_87 rfl ?_
  refine g_iload_n C dX6_derive_88 rfl ?_
  refine g_iload C dX6_derive_89 rfl ?_
  refine g_callV (ci := 6) C dX6_derive_91 cw_X6_116 rfl (r_write G rd S1 M1 P1 a ha R1.1 w1 n (x + 8 * y + 64 * z) hn (by omega) hT) P1.ob rfl rfl (Nat.le_of_ble_eq_true rfl) (by decide) (by decide) (by decide) (by decide) (fun u M2 hq => ?_)
  obtain ⟨b, S2, rfl, P2, F2, E2, I2⟩ := hq
  have hb : b = true := by
    cases b with
    | true => rfl
    | false => exact absurd ⟨T, hG⟩ (I2.2 rfl)
  subst hb
  obtain ⟨T', g1, g2, g3, g4⟩ := I2.1 rfl
  have eT : T' = T := Gd_uniq g1 hG
  subst eT
  show GW G X 9 M2 0 0 94 _ [.int (bI true), .int (nI 0), .int (nI 0), .ref (rd 0)]
  refine g_if_ne C dX6_derive_94 (tgt := 101) (by decide) (fun _ => ?_) (fun q => absurd q (by decide))
  refine g_iconst C dX6_derive_101 (v := nI 0) rfl ?_
  refine g_callV (ci := 6) C dX6_derive_102 cw_X6_56 rfl (r_refuse G rd S2 M2 P2 false false false) P2.ob rfl rfl (Nat.le_of_ble_eq_true rfl) (by decide) (by decide) (by decide) (by decide) (fun u M3 hq => ?_)
  obtain ⟨rfl, S3, P3, F3, A3⟩ := hq
  show GW G X 9 M3 0 0 105 _ [.int (bI false)]
  have g23 : S3.2 4 = nI T' := by rw [A3.ne (by decide)]; exact g2
  refine g_if_eq C dX6_derive_105 (tgt := 110) (by decide) (fun _ => ?_) (fun q => absurd (by decide) q)
  refine g_aload_n C dX6_derive_110 rfl ?_
  refine g_aload_n C dX6_derive_111 rfl ?_
  refine g_getf C fl_X6_107 dX6_derive_112 P3.ob rfl ?_
  rw [g23]
  refine g_putf C fl_X6_26 rfl dX6_derive_115 P3.ob rfl rfl (Nat.le_of_ble_eq_true rfl) ?_
  refine g_abs (fun M' => ∃ S4, RPic G rd S4 M' ∧ RFr rd M M' ∧ rsI S3 S4 3 (nI T')) ⟨_, P3.sc 3 _ rfl, ((F1.tr F2).tr F3).st (k := 0) (by decide), rfl, rfl⟩ (fun M4 ⟨S4, P4, F4, A4⟩ => ?_)
  refine g_iconst C dX6_derive_118 (v := nI 0) rfl ?_
  refine g_istore C dX6_derive_119 (by decide) ?_
  refine g_loc [0, 8] rfl ?_
  refine l_rd1 (S := S4) (M := M4) C hT5 A4.at (fun S5 M5 P5 F5 E5 K5 I5 => ?_) T' 0 S4 M4 (by omega) P4 RFr.rf rfl (fun _ _ => rfl) (fun s hs => absurd hs (Nat.not_lt_zero s))
  refine g_iconst C dX6_derive_150 (v := nI 0) rfl ?_
  refine g_istore C dX6_derive_151 (by decide) ?_
  refine l_rd2 (S := S5) (M := M5) C (fun S6 M6 P6 F6 E6 K6 I6 => ?_) 10 0 S5 M5 (by omega) P5 RFr.rf rfl (fun _ _ => rfl) (fun s hs => absurd hs (Nat.not_lt_zero s))
  have e63 : S6.2 3 = nI T' := by rw [E6, E5, A4.at]
  have R2 := E2.RR R1
  have sc : ∀ i, i ≠ 0 → i ≠ 3 → S6.2 i = S2.2 i := fun i h0 h3 => by rw [E6, E5, A4.ne h3, A3.ne h0]
  have ar : ∀ k, k ≠ 3 → k ≠ 6 → S6.1 k = S2.1 k := fun k h3 h6 => by rw [K6 k h3, K5 k h6, A4.1, A3.1]
  refine g_aload_n C dX6_derive_180 rfl ?_
  refine g_getf C fl_X6_26 dX6_derive_181 P6.ob rfl ?_
  rw [e63]
  refine rt (some (.int _)) M6 _ _ _ _ (fm_retI dX6_derive_184) ⟨S6, rfl, P6, (F4.tr F5).tr F6, ⟨R2.1.of (sc 1 (by decide) (by decide)) (ar 1 (by decide) (by decide)) (ar 2 (by decide) (by decide)), fun r hr => ?_, Or.inr ⟨hpos, e63⟩, fun t ht => ?_, ?_⟩, ?_⟩ (Nat.le_refl _) (Nat.le_refl _)
  · have hr2 : r < a.nR := hr
    rw [I6 r (by omega), K5 8 (by decide), A4.1, A3.1]; exact g4 r (by omega)
  · have ht2 : t < T' := ht
    rw [K6 6 (by decide), I5 t ht2, A4.1, A3.1]; exact g3 t ht2
  · rw [sc 2 (by decide) (by decide), ar 4 (by decide) (by decide)]; exact R2.2.2.2.2
  · rw [E6, E5, A4.ne (by decide), A3.at]; rfl

