/-! THE REFERENCE: stands, asLeft, reached, fit, letters -/
theorem cntq_pos {s : Nat → Bool} : ∀ n, 0 < cntq s n ↔ ∃ j, j < n ∧ s j = true := by
  intro n
  induction n with
  | zero => exact ⟨fun z => absurd z (Nat.lt_irrefl 0), fun ⟨j, z, _⟩ => absurd z (Nat.not_lt_zero j)⟩
  | succ n ih =>
    show 0 < cntq s n + (if s n = true then 1 else 0) ↔ _
    by_cases hn : s n = true
    · rw [if_pos hn]
      exact ⟨fun _ => ⟨n, Nat.lt_succ_self n, hn⟩, fun _ => by omega⟩
    · rw [if_neg hn, Nat.add_zero, ih]
      constructor
      · rintro ⟨j, h1, h2⟩; exact ⟨j, by omega, h2⟩
      · rintro ⟨j, h1, h2⟩
        refine ⟨j, ?_, h2⟩
        have : j ≠ n := fun e => hn (by rw [← e]; exact h2)
        omega
theorem mkN_bit {pt : Nat → Nat} (n : Nat) : ∀ i, (mkN pt i).testBit n = true ↔ ∃ j, j < i ∧ pt j = n := by
  intro i
  induction i with
  | zero =>
    show (0 : Nat).testBit n = true ↔ _
    rw [Nat.zero_testBit]
    exact ⟨fun z => absurd z Bool.false_ne_true, fun ⟨j, z, _⟩ => absurd z (Nat.not_lt_zero j)⟩
  | succ i ih =>
    show (mkN pt i ||| 2 ^ pt i).testBit n = true ↔ _
    rw [Nat.testBit_or, Bool.or_eq_true, ih, Nat.testBit_two_pow, decide_eq_true_iff]
    constructor
    · rintro (⟨j, h1, h2⟩ | h1)
      · exact ⟨j, by omega, h2⟩
      · exact ⟨i, Nat.lt_succ_self i, h1⟩
    · rintro ⟨j, h1, h2⟩
      by_cases he : j = i
      · subst he; exact Or.inr h2
      · exact Or.inl ⟨j, by omega, h2⟩
def mkT (f : Nat → Nat) : Nat → Nat
  | 0 => 0
  | n + 1 => if 0 < tm f (n + 1) 4 then mkT f n ||| 2 ^ n else mkT f n
theorem mkT_bit {f : Nat → Nat} (n : Nat) : ∀ i, (mkT f i).testBit n = true ↔ (n < i ∧ 0 < tm f (n + 1) 4) := by
  intro i
  induction i with
  | zero =>
    show (0 : Nat).testBit n = true ↔ _
    rw [Nat.zero_testBit]
    exact ⟨fun z => absurd z Bool.false_ne_true, fun z => absurd z.1 (Nat.not_lt_zero n)⟩
  | succ i ih =>
    show (if 0 < tm f (i + 1) 4 then mkT f i ||| 2 ^ i else mkT f i).testBit n = true ↔ _
    by_cases h : 0 < tm f (i + 1) 4
    · rw [if_pos h, Nat.testBit_or, Bool.or_eq_true, ih, Nat.testBit_two_pow, decide_eq_true_iff]
      constructor
      · rintro (⟨h1, h2⟩ | h1)
        · exact ⟨by omega, h2⟩
        · subst h1; exact ⟨Nat.lt_succ_self _, h⟩
      · rintro ⟨h1, h2⟩
        by_cases he : i = n
        · exact Or.inr he
        · exact Or.inl ⟨by omega, h2⟩
    · rw [if_neg h, ih]
      constructor
      · rintro ⟨h1, h2⟩; exact ⟨by omega, h2⟩
      · rintro ⟨h1, h2⟩
        refine ⟨?_, h2⟩
        have : n ≠ i := fun e => h (by rw [← e]; exact h2)
        omega
theorem mkT_R (a : Ab) (r : Nat) : mkT (a.sy r) 5 = mkR a r := by
  apply Nat.eq_of_testBit_eq
  intro n
  have h1 := mkT_bit (f := a.sy r) n 5
  have h2 := mkN_bit (pt := ptf (a.sy r) 4) n (nz (a.sy r) 4)
  have key : (n < 5 ∧ 0 < tm (a.sy r) (n + 1) 4) ↔ ∃ j, j < nz (a.sy r) 4 ∧ ptf (a.sy r) 4 j = n := by
    constructor
    · rintro ⟨hn, h⟩
      rw [← tm_pt (a.sy r) hn 4, cntq_pos] at h
      obtain ⟨j, q1, q2⟩ := h
      exact ⟨j, q1, of_decide_eq_true q2⟩
    · rintro ⟨j, q1, q2⟩
      have hn : n < 5 := by rw [← q2]; exact ptf_lt 4 j q1
      refine ⟨hn, ?_⟩
      rw [← tm_pt (a.sy r) hn 4, cntq_pos]
      exact ⟨j, q1, decide_eq_true q2⟩
  have h3 : (mkT (a.sy r) 5).testBit n = true ↔ (mkR a r).testBit n = true := h1.trans (key.trans h2.symm)
  cases hb : (mkT (a.sy r) 5).testBit n with
  | true => exact (h3.mp hb).symm
  | false =>
    cases hc : (mkR a r).testBit n with
    | false => rfl
    | true => rw [h3.mpr hc] at hb; cases hb
theorem mkT_lt (f : Nat → Nat) : ∀ n, n ≤ 5 → mkT f n < 32 := by
  intro n
  induction n with
  | zero => exact fun _ => (show 0 < 32 by decide)
  | succ n ih =>
    intro hn
    show (if 0 < tm f (n + 1) 4 then mkT f n ||| 2 ^ n else mkT f n) < 32
    by_cases h : 0 < tm f (n + 1) 4
    · rw [if_pos h]; exact (or32 _ (ih (by omega)) _ (sh32 n (by omega)).2).2
    · rw [if_neg h]; exact ih (by omega)

set_option maxHeartbeats 4000000 in
set_option maxRecDepth 100000 in
theorem l_stands {G : fm_G} {rd : Nat → Nat} {S : Rs} {M : fm_M} {X : fm_X} {fr lo mc ms : Nat} {a : Ab} {k : Nat} (C : GC G X RX6 cX6_stands 4 (fr + 1) (lo + 24) mc ms) (Pi : RPic G rd S M) (ha : AbOk a) (h : RR a S) (hk : k < 9) (kk : ∀ ls, fm_lk ls 2 = some (.int (nI (stS a k))) → GW G X 4 M 0 0 34 ls []) : ∀ d r, r + d = a.nR → GW G X 4 M 0 0 4 [(0, .ref (rd 0)), (1, .int (dn k)), (2, .int (nI (sm (fun r => a.us r * tm (a.sy r) k 4) r))), (3, .int (nI r))] [] := by
  have h10 := ha.1
  have e0 : S.2 1 = nI a.nR := h.1.1
  intro d
  induction d with
  | zero =>
    intro r hr
    have e : r = a.nR := by omega
    subst e
    refine g_iload_n C dX6_stands_4 rfl ?_
    refine g_aload_n C dX6_stands_5 rfl ?_
    refine g_getf C fl_X6_53 dX6_stands_6 Pi.ob rfl ?_
    rw [e0]
    refine g_icmp_geN C dX6_stands_9 (tgt := 34) (by decide) (by omega) (by omega) (fun hb => kk _ rfl) (fun hb => absurd hb (by omega))
  | succ d ih =>
    intro r hr
    have hrn : r < a.nR := by omega
    have e3 := h.2.1 r hrn
    refine g_iload_n C dX6_stands_4 rfl ?_
    refine g_aload_n C dX6_stands_5 rfl ?_
    refine g_getf C fl_X6_53 dX6_stands_6 Pi.ob rfl ?_
    rw [e0]
    refine g_icmp_geN C dX6_stands_9 (tgt := 34) (by decide) (by omega) (by omega) (fun hb => absurd hb (by omega)) (fun hb => ?_)
    refine g_iload_n C dX6_stands_12 rfl ?_
    refine g_aload_n C dX6_stands_13 rfl ?_
    refine g_getf C fl_X6_16 dX6_stands_14 Pi.ob rfl ?_
    refine g_iload_n C dX6_stands_17 rfl ?_
    refine g_ialdN C dX6_stands_18 Pi.k3 (show r < 10 by omega) (by decide) ?_
    rw [e3]
    refine g_aload_n C dX6_stands_19 rfl ?_
    refine g_iload_n C dX6_stands_20 rfl ?_
    refine g_iload_n C dX6_stands_21 rfl ?_
    refine g_callV (ci := 6) C dX6_stands_22 cw_X6_64 rfl (r_times G rd S M Pi a ha h.1 r k hrn hk) Pi.ob rfl rfl (Nat.le_of_ble_eq_true rfl) (by omega) (by omega) (by omega) (by omega) (fun v M2 hq => ?_)
    obtain ⟨rfl, rfl⟩ := hq
    show GW G X 4 M2 0 0 25 _ (.int (nI (tm (a.sy r) k 4)) :: .int (nI (a.us r)) :: .int _ :: [])
    refine g_imul C dX6_stands_25 ?_
    refine g_topI (pk_mul _ _) ?_
    refine g_iadd C dX6_stands_26 ?_
    refine g_topI (nI_add _ _) ?_
    refine g_istore_n C dX6_stands_27 (by decide) ?_
    refine g_inc1 C dX6_stands_28 rfl (by decide) ?_
    refine g_goto C dX6_stands_31 (tgt := 4) (by decide) ?_
    exact ih (r + 1) (by omega)

set_option maxHeartbeats 4000000 in
set_option maxRecDepth 100000 in
theorem r_stands (G : fm_G) (rd : Nat → Nat) (S : Rs) (M : fm_M) (Pi : RPic G rd S M) (a : Ab) (ha : AbOk a) (h : RR a S) (k : Nat) (hk : k < 9) : fm_Ct G yX6_stands cX6_stands 4 (some .int) 1 24 0 0 [.ref (rd 0), .int (dn k)] M (fun v M1 => v = some (.int (nI (stS a k))) ∧ M1 = M) := by
  refine fm_head (by decide) (Nat.le_of_ble_eq_true rfl) rfl (fun X C N0 rt => ?_)
  refine g_iconst C dX6_stands_0 (v := nI 0) rfl ?_
  refine g_istore_n C dX6_stands_1 (by decide) ?_
  refine g_iconst C dX6_stands_2 (v := nI 0) rfl ?_
  refine g_istore_n C dX6_stands_3 (by decide) ?_
  refine l_stands (fr := 0) (lo := 0) C Pi ha h hk (fun ls hls => ?_) a.nR 0 (by omega)
  refine g_iload_n C dX6_stands_34 hls ?_
  exact rt (some (.int _)) _ _ _ _ _ (fm_retI dX6_stands_35) ⟨rfl, rfl⟩ (Nat.le_refl _) (Nat.le_refl _)

set_option maxHeartbeats 4000000 in
set_option maxRecDepth 100000 in
theorem l_asLeft {G : fm_G} {rd : Nat → Nat} {S : Rs} {M : fm_M} {X : fm_X} {fr lo mc ms : Nat} {a : Ab} {n : Nat} (C : GC G X RX6 cX6_asLeft 4 fr lo mc ms) (Pi : RPic G rd S M) (ha : AbOk a) (h : RR a S) (hn : n < 5) (kk : ∀ ls, fm_lk ls 2 = some (.int (nI (lfS a n))) → GW G X 4 M 0 0 41 ls []) : ∀ d r, r + d = a.nR → GW G X 4 M 0 0 4 [(0, .ref (rd 0)), (1, .int (nI n)), (2, .int (nI (sm (fun r => if a.lf r = n then a.us r else 0) r))), (3, .int (nI r))] [] := by
  have h10 := ha.1
  have e0 : S.2 1 = nI a.nR := h.1.1
  intro d
  induction d with
  | zero =>
    intro r hr
    have e : r = a.nR := by omega
    subst e
    refine g_iload_n C dX6_asLeft_4 rfl ?_
    refine g_aload_n C dX6_asLeft_5 rfl ?_
    refine g_getf C fl_X6_53 dX6_asLeft_6 Pi.ob rfl ?_
    rw [e0]
    refine g_icmp_geN C dX6_asLeft_9 (tgt := 41) (by decide) (by omega) (by omega) (fun hb => kk _ rfl) (fun hb => absurd hb (by omega))
  | succ d ih =>
    intro r hr
    have hrn : r < a.nR := by omega
    have e1 := (h.1.2 r hrn).1
    have e3 := h.2.1 r hrn
    have hlf := (ha.2.1 r hrn).1
    have hs : sm (fun r => if a.lf r = n then a.us r else 0) (r + 1) = sm (fun r => if a.lf r = n then a.us r else 0) r + (if a.lf r = n then a.us r else 0) := rfl
    have ih1 := ih (r + 1) (by omega)
    rw [hs] at ih1
    refine g_iload_n C dX6_asLeft_4 rfl ?_
    refine g_aload_n C dX6_asLeft_5 rfl ?_
    refine g_getf C fl_X6_53 dX6_asLeft_6 Pi.ob rfl ?_
    rw [e0]
    refine g_icmp_geN C dX6_asLeft_9 (tgt := 41) (by decide) (by omega) (by omega) (fun hb => absurd hb (by omega)) (fun hb => ?_)
    refine g_aload_n C dX6_asLeft_12 rfl ?_
    refine g_getf C fl_X6_7 dX6_asLeft_13 Pi.ob rfl ?_
    refine g_iload_n C dX6_asLeft_16 rfl ?_
    refine g_ialdN C dX6_asLeft_17 Pi.k1 (show r < 10 by omega) (by decide) ?_
    rw [e1]
    refine g_iload_n C dX6_asLeft_18 rfl ?_
    refine g_icmp_neN C dX6_asLeft_19 (tgt := 33) (by decide) (by omega) (by omega) (fun hb => ?_) (fun hb => ?_)
    · rw [if_neg hb] at ih1
      refine g_iload_n C dX6_asLeft_33 rfl ?_
      refine g_istore_n C dX6_asLeft_34 (by decide) ?_
      refine g_inc1 C dX6_asLeft_35 rfl (by decide) ?_
      refine g_goto C dX6_asLeft_38 (tgt := 4) (by decide) ?_
      exact ih1
    · rw [if_pos hb] at ih1
      refine g_iload_n C dX6_asLeft_22 rfl ?_
      refine g_aload_n C dX6_asLeft_23 rfl ?_
      refine g_getf C fl_X6_16 dX6_asLeft_24 Pi.ob rfl ?_
      refine g_iload_n C dX6_asLeft_27 rfl ?_
      refine g_ialdN C dX6_asLeft_28 Pi.k3 (show r < 10 by omega) (by decide) ?_
      rw [e3]
      refine g_iadd C dX6_asLeft_29 ?_
      refine g_topI (nI_add _ _) ?_
      refine g_goto C dX6_asLeft_30 (tgt := 34) (by decide) ?_
      refine g_istore_n C dX6_asLeft_34 (by decide) ?_
      refine g_inc1 C dX6_asLeft_35 rfl (by decide) ?_
      refine g_goto C dX6_asLeft_38 (tgt := 4) (by decide) ?_
      exact ih1

set_option maxHeartbeats 4000000 in
set_option maxRecDepth 100000 in
theorem r_asLeft (G : fm_G) (rd : Nat → Nat) (S : Rs) (M : fm_M) (Pi : RPic G rd S M) (a : Ab) (ha : AbOk a) (h : RR a S) (n : Nat) (hn : n < 5) : fm_Ct G yX6_asLeft cX6_asLeft 4 (some .int) 0 0 0 0 [.ref (rd 0), .int (nI n)] M (fun v M1 => v = some (.int (nI (lfS a n))) ∧ M1 = M) := by
  refine fm_head (by decide) (Nat.le_of_ble_eq_true rfl) rfl (fun X C N0 rt => ?_)
  refine g_iconst C dX6_asLeft_0 (v := nI 0) rfl ?_
  refine g_istore_n C dX6_asLeft_1 (by decide) ?_
  refine g_iconst C dX6_asLeft_2 (v := nI 0) rfl ?_
  refine g_istore_n C dX6_asLeft_3 (by decide) ?_
  refine l_asLeft C Pi ha h hn (fun ls hls => ?_) a.nR 0 (by omega)
  refine g_iload_n C dX6_asLeft_41 hls ?_
  exact rt (some (.int _)) _ _ _ _ _ (fm_retI dX6_asLeft_42) ⟨rfl, rfl⟩ (Nat.le_refl _) (Nat.le_refl _)

set_option maxHeartbeats 4000000 in
set_option maxRecDepth 100000 in
theorem l_rch0 {G : fm_G} {rd : Nat → Nat} {S : Rs} {M : fm_M} {X : fm_X} {fr lo mc ms : Nat} {a : Ab} {n k r m0 : Nat} (C : GC G X RX6 cX6_reached 7 (fr + 1) (lo + 24) mc ms) (Pi : RPic G rd S M) (ha : AbOk a) (h : RR a S) (hr : r < a.nR) (hm : m0 < 32) (kk : GW G X 7 M 0 0 97 [(0, .ref (rd 0)), (1, .int (nI n)), (2, .int (nI (m0 ||| mkR a r))), (3, .int (nI k)), (4, .int (nI r))] []) : ∀ d i, i + d = 5 → GW G X 7 M 0 0 58 [(0, .ref (rd 0)), (1, .int (nI n)), (2, .int (nI (m0 ||| mkT (a.sy r) i))), (3, .int (nI k)), (4, .int (nI r)), (5, .int (bI true)), (6, .int (nI i))] [] := by
  intro d
  induction d with
  | zero =>
    intro i hi
    have e : i = 5 := by omega
    subst e
    rw [mkT_R]
    refine g_iload C dX6_reached_58 rfl ?_
    refine g_iconst C dX6_reached_60 (v := nI 5) rfl ?_
    refine g_icmp_geN C dX6_reached_61 (tgt := 97) (by decide) (by decide) (by decide) (fun hb => g_loc [0, 1, 2, 3, 4] rfl kk) (fun hb => absurd hb (by omega))
  | succ d ih =>
    intro i hi
    have ih1 := ih (i + 1) (by omega)
    have hlt := mkT_lt (a.sy r) i (by omega)
    have ho := or32 _ hm _ hlt
    have h4 := tm_le (a.sy r) (i + 1) 4
    have es : mkT (a.sy r) (i + 1) = if 0 < tm (a.sy r) (i + 1) 4 then mkT (a.sy r) i ||| 2 ^ i else mkT (a.sy r) i := rfl
    refine g_iload C dX6_reached_58 rfl ?_
    refine g_iconst C dX6_reached_60 (v := nI 5) rfl ?_
    refine g_icmp_geN C dX6_reached_61 (tgt := 97) (by decide) (by omega) (by decide) (fun hb => absurd hb (by omega)) (fun hb => ?_)
    refine g_iload C dX6_reached_64 rfl ?_
    refine g_if_eq C dX6_reached_66 (tgt := 97) (by decide) (fun q => absurd q (by decide)) (fun _ => ?_)
    refine g_aload_n C dX6_reached_69 rfl ?_
    refine g_iload C dX6_reached_70 rfl ?_
    refine g_iload C dX6_reached_72 rfl ?_
    refine g_callV (ci := 6) C dX6_reached_74 cw_X6_64 rfl (r_times G rd S M Pi a ha h.1 r (i + 1) hr (by omega)) Pi.ob rfl rfl (Nat.le_of_ble_eq_true rfl) (by omega) (by omega) (by omega) (by omega) (fun v M2 hq => ?_)
    obtain ⟨rfl, rfl⟩ := hq
    show GW G X 7 M2 0 0 77 _ [.int (nI (tm (a.sy r) (i + 1) 4))]
    refine g_if_le C dX6_reached_77 (tgt := 89) (by decide) (fun h1 => ?_) (fun h1 => ?_)
    · rw [es, if_neg (fun q => absurd h1 (nI_nle q (by omega)))] at ih1
      refine g_iload_n C dX6_reached_89 rfl ?_
      refine g_istore_n C dX6_reached_90 (by decide) ?_
      refine g_inc1 C dX6_reached_91 rfl (by decide) ?_
      refine g_goto C dX6_reached_94 (tgt := 58) (by decide) ?_
      exact ih1
    · rw [es, if_pos (Nat.pos_of_ne_zero (fun q => h1 (by rw [q]; decide))), ← Nat.or_assoc] at ih1
      refine g_iload_n C dX6_reached_80 rfl ?_
      refine g_iconst C dX6_reached_81 (v := nI 1) rfl ?_
      refine g_iload C dX6_reached_82 rfl ?_
      refine g_ishl C dX6_reached_84 ?_
      refine g_topI (sh32 i (by omega)).1 ?_
      refine g_ior C dX6_reached_85 ?_
      refine g_topI (or32 _ ho.2 _ (sh32 i (by omega)).2).1 ?_
      refine g_goto C dX6_reached_86 (tgt := 90) (by decide) ?_
      refine g_istore_n C dX6_reached_90 (by decide) ?_
      refine g_inc1 C dX6_reached_91 rfl (by decide) ?_
      refine g_goto C dX6_reached_94 (tgt := 58) (by decide) ?_
      exact ih1

set_option maxHeartbeats 4000000 in
set_option maxRecDepth 100000 in
theorem l_rch1 {G : fm_G} {rd : Nat → Nat} {S : Rs} {M : fm_M} {X : fm_X} {fr lo mc ms : Nat} {a : Ab} {n k m0 : Nat} (C : GC G X RX6 cX6_reached 7 (fr + 1) (lo + 24) mc ms) (Pi : RPic G rd S M) (ha : AbOk a) (h : RR a S) (hm : m0 < 32) (kk : ∀ ls, fm_sel ls [0, 1, 2, 3] = some [(0, .ref (rd 0)), (1, .int (nI n)), (2, .int (nI (swp a a.nR m0))), (3, .int (nI k))] → GW G X 7 M 0 0 103 ls []) : ∀ d r, r + d = a.nR → GW G X 7 M 0 0 14 [(0, .ref (rd 0)), (1, .int (nI n)), (2, .int (nI (swp a r m0))), (3, .int (nI k)), (4, .int (nI r))] [] := by
  have h10 := ha.1
  have e0 : S.2 1 = nI a.nR := h.1.1
  intro d
  induction d with
  | zero =>
    intro r hr
    have e : r = a.nR := by omega
    subst e
    refine g_iload C dX6_reached_14 rfl ?_
    refine g_aload_n C dX6_reached_16 rfl ?_
    refine g_getf C fl_X6_53 dX6_reached_17 Pi.ob rfl ?_
    rw [e0]
    refine g_icmp_geN C dX6_reached_20 (tgt := 103) (by decide) (by omega) (by omega) (fun hb => kk _ rfl) (fun hb => absurd hb (by omega))
  | succ d ih =>
    intro r hr
    have hrn : r < a.nR := by omega
    have e1 := (h.1.2 r hrn).1
    have e3 := h.2.1 r hrn
    have hlf := (ha.2.1 r hrn).1
    have h50 := (ha.2.1 r hrn).2.2
    have hlt := swp_lt a hm r
    have ih1 := ih (r + 1) (by omega)
    rw [swp_s] at ih1
    have goes : ∀ t : Bool, (t = true ↔ (0 < a.us r ∧ (swp a r m0).testBit (a.lf r) = true)) → GW G X 7 M 0 0 53 [(0, .ref (rd 0)), (1, .int (nI n)), (2, .int (nI (swp a r m0))), (3, .int (nI k)), (4, .int (nI r))] [.int (bI t)] := by
      intro t ht
      cases t with
      | true =>
        rw [if_pos (ht.mp rfl)] at ih1
        refine g_istore C dX6_reached_53 (by decide) ?_
        refine g_iconst C dX6_reached_55 (v := nI 0) rfl ?_
        refine g_istore C dX6_reached_56 (by decide) ?_
        have e00 : swp a r m0 = swp a r m0 ||| mkT (a.sy r) 0 := (Nat.or_zero _).symm
        rw [e00]
        refine l_rch0 (fr := fr) (lo := lo) (n := n) (k := k) C Pi ha h hrn hlt ?_ 5 0 (by omega)
        refine g_inc1 C dX6_reached_97 rfl (by decide) ?_
        refine g_goto C dX6_reached_100 (tgt := 14) (by decide) ?_
        exact ih1
      | false =>
        rw [if_neg (fun q => absurd (ht.mpr q) Bool.false_ne_true)] at ih1
        refine g_istore C dX6_reached_53 (by decide) ?_
        refine g_iconst C dX6_reached_55 (v := nI 0) rfl ?_
        refine g_istore C dX6_reached_56 (by decide) ?_
        refine g_iload C dX6_reached_58 rfl ?_
        refine g_iconst C dX6_reached_60 (v := nI 5) rfl ?_
        refine g_icmp_geN C dX6_reached_61 (tgt := 97) (by decide) (by decide) (by decide) (fun q => absurd q (by decide)) (fun _ => ?_)
        refine g_iload C dX6_reached_64 rfl ?_
        refine g_if_eq C dX6_reached_66 (tgt := 97) (by decide) (fun _ => ?_) (fun q => absurd (by decide) q)
        refine g_loc [0, 1, 2, 3, 4] rfl ?_
        refine g_inc1 C dX6_reached_97 rfl (by decide) ?_
        refine g_goto C dX6_reached_100 (tgt := 14) (by decide) ?_
        exact ih1
    refine g_iload C dX6_reached_14 rfl ?_
    refine g_aload_n C dX6_reached_16 rfl ?_
    refine g_getf C fl_X6_53 dX6_reached_17 Pi.ob rfl ?_
    rw [e0]
    refine g_icmp_geN C dX6_reached_20 (tgt := 103) (by decide) (by omega) (by omega) (fun hb => absurd hb (by omega)) (fun hb => ?_)
    refine g_aload_n C dX6_reached_23 rfl ?_
    refine g_getf C fl_X6_16 dX6_reached_24 Pi.ob rfl ?_
    refine g_iload C dX6_reached_27 rfl ?_
    refine g_ialdN C dX6_reached_29 Pi.k3 (show r < 10 by omega) (by decide) ?_
    rw [e3]
    refine g_if_le C dX6_reached_30 (tgt := 52) (by decide) (fun h1 => ?_) (fun h1 => ?_)
    · skip
      refine g_iconst C dX6_reached_52 (v := nI 0) rfl ?_
      exact goes false ⟨fun q => absurd q Bool.false_ne_true, fun q => absurd h1 (nI_nle q.1 (by omega))⟩
    · have hpos : 0 < a.us r := Nat.pos_of_ne_zero (fun q => h1 (by rw [q]; decide))
      refine g_iload_n C dX6_reached_33 rfl ?_
      refine g_aload_n C dX6_reached_34 rfl ?_
      refine g_getf C fl_X6_7 dX6_reached_35 Pi.ob rfl ?_
      refine g_iload C dX6_reached_38 rfl ?_
      refine g_ialdN C dX6_reached_40 Pi.k1 (show r < 10 by omega) (by decide) ?_
      rw [e1]
      refine g_ishr C dX6_reached_41 ?_
      refine g_iconst C dX6_reached_42 (v := nI 1) rfl ?_
      refine g_iand C dX6_reached_43 ?_
      refine g_topI (bt32 _ hlt _ hlf) ?_
      refine g_iconst C dX6_reached_44 (v := nI 1) rfl ?_
      by_cases hbt : (swp a r m0).testBit (a.lf r) = true
      · rw [if_pos hbt]
        refine g_icmp_ne C dX6_reached_45 (tgt := 52) (by decide) (fun q => absurd rfl q) (fun _ => ?_)
        refine g_iconst C dX6_reached_48 (v := nI 1) rfl ?_
        refine g_goto C dX6_reached_49 (tgt := 53) (by decide) ?_
        exact goes true ⟨fun _ => ⟨hpos, hbt⟩, fun _ => rfl⟩
      · rw [if_neg hbt]
        refine g_icmp_ne C dX6_reached_45 (tgt := 52) (by decide) (fun _ => ?_) (fun q => absurd q (by decide))
        refine g_iconst C dX6_reached_52 (v := nI 0) rfl ?_
        exact goes false ⟨fun q => absurd q Bool.false_ne_true, fun q => absurd q.2 hbt⟩

set_option maxHeartbeats 4000000 in
set_option maxRecDepth 100000 in
theorem l_rch2 {G : fm_G} {rd : Nat → Nat} {S : Rs} {M : fm_M} {X : fm_X} {fr lo mc ms : Nat} {a : Ab} {n : Nat} (C : GC G X RX6 cX6_reached 7 (fr + 1) (lo + 24) mc ms) (Pi : RPic G rd S M) (ha : AbOk a) (h : RR a S) (hn : n < 5) (kk : ∀ ls, fm_lk ls 2 = some (.int (nI (swk a 5 (2 ^ n)))) → GW G X 7 M 0 0 109 ls []) : ∀ d k, k + d = 5 → GW G X 7 M 0 0 6 [(0, .ref (rd 0)), (1, .int (nI n)), (2, .int (nI (swk a k (2 ^ n)))), (3, .int (nI k))] [] := by
  intro d
  induction d with
  | zero =>
    intro k hk
    have e : k = 5 := by omega
    subst e
    refine g_iload_n C dX6_reached_6 rfl ?_
    refine g_iconst C dX6_reached_7 (v := nI 5) rfl ?_
    refine g_icmp_geN C dX6_reached_8 (tgt := 109) (by decide) (by decide) (by decide) (fun hb => kk _ rfl) (fun hb => absurd hb (by omega))
  | succ d ih =>
    intro k hk
    refine g_iload_n C dX6_reached_6 rfl ?_
    refine g_iconst C dX6_reached_7 (v := nI 5) rfl ?_
    refine g_icmp_geN C dX6_reached_8 (tgt := 109) (by decide) (by omega) (by decide) (fun hb => absurd hb (by omega)) (fun hb => ?_)
    refine g_iconst C dX6_reached_11 (v := nI 0) rfl ?_
    refine g_istore C dX6_reached_12 (by decide) ?_
    refine l_rch1 (fr := fr) (lo := lo) (n := n) (m0 := swk a k (2 ^ n)) (k := k) C Pi ha h (swk_lt a (sh32 n hn).2 k) (fun ls hls => ?_) a.nR 0 (by omega)
    refine g_loc [0, 1, 2, 3] hls ?_
    refine g_inc1 C dX6_reached_103 rfl (by decide) ?_
    refine g_goto C dX6_reached_106 (tgt := 6) (by decide) ?_
    exact ih (k + 1) (by omega)

set_option maxHeartbeats 4000000 in
set_option maxRecDepth 100000 in
theorem r_reached (G : fm_G) (rd : Nat → Nat) (S : Rs) (M : fm_M) (Pi : RPic G rd S M) (a : Ab) (ha : AbOk a) (h : RR a S) (n : Nat) (hn : n < 5) : fm_Ct G yX6_reached cX6_reached 7 (some .int) 1 24 0 0 [.ref (rd 0), .int (nI n)] M (fun v M1 => v = some (.int (nI (swk a 4 (2 ^ n)))) ∧ M1 = M) := by
  rw [← swk_54 a hn]
  refine fm_head (by decide) (Nat.le_of_ble_eq_true rfl) rfl (fun X C N0 rt => ?_)
  refine g_iconst C dX6_reached_0 (v := nI 1) rfl ?_
  refine g_iload_n C dX6_reached_1 rfl ?_
  refine g_ishl C dX6_reached_2 ?_
  refine g_topI (sh32 n hn).1 ?_
  refine g_istore_n C dX6_reached_3 (by decide) ?_
  refine g_iconst C dX6_reached_4 (v := nI 0) rfl ?_
  refine g_istore_n C dX6_reached_5 (by decide) ?_
  refine l_rch2 (fr := 0) (lo := 0) (S := S) C Pi ha h hn (fun ls hls => ?_) 5 0 (by omega)
  refine g_iload_n C dX6_reached_109 hls ?_
  exact rt (some (.int _)) _ _ _ _ _ (fm_retI dX6_reached_110) ⟨rfl, rfl⟩ (Nat.le_refl _) (Nat.le_refl _)

set_option maxHeartbeats 4000000 in
set_option maxRecDepth 100000 in
theorem l_rfit2 {G : fm_G} {rd : Nat → Nat} {S : Rs} {M : fm_M} {X : fm_X} {fr lo mc ms : Nat} {a : Ab} {n m0 : Nat} (C : GC G X RX6 cX6_fit 4 (fr + 2) (lo + 50) mc ms) (Pi : RPic G rd S M) (ha : AbOk a) (h : RR a S) (hm : m0 < 32) : ∀ d m, m + d = 5 → (kk : ∀ pc, (pc = 57 ∨ pc = 97 ∨ pc = 105) → ∀ ls, GW G X 4 M 0 0 pc ls [.int (ft2 a m0 d m)]) → GW G X 4 M 0 0 72 [(0, .ref (rd 0)), (1, .int (nI n)), (2, .int (nI m0)), (3, .int (nI m))] [] := by
  intro d
  induction d with
  | zero =>
    intro m hd kk
    refine g_iload_n C dX6_fit_72 rfl ?_
    refine g_iconst C dX6_fit_73 (v := nI 5) rfl ?_
    refine g_icmp_geN C dX6_fit_74 (tgt := 104) (by decide) (by omega) (by decide) (fun hb => ?_) (fun hb => absurd hb (by omega))
    refine g_iconst C dX6_fit_104 (v := nI 0) rfl ?_
    exact kk 105 (Or.inr (Or.inr rfl)) _
  | succ d ih =>
    intro m hd kk
    have hm5 : m < 5 := by omega
    have hle := lfS_le ha m
    have kk' : ∀ pc, (pc = 57 ∨ pc = 97 ∨ pc = 105) → ∀ ls, GW G X 4 M 0 0 pc ls [.int (if 0 < lfS a m ∧ m0.testBit m = false then nI (11 + m) else ft2 a m0 d (m + 1))] := kk
    refine g_iload_n C dX6_fit_72 rfl ?_
    refine g_iconst C dX6_fit_73 (v := nI 5) rfl ?_
    refine g_icmp_geN C dX6_fit_74 (tgt := 104) (by decide) (by omega) (by decide) (fun hb => absurd hb (by omega)) (fun hb => ?_)
    refine g_aload_n C dX6_fit_77 rfl ?_
    refine g_iload_n C dX6_fit_78 rfl ?_
    refine g_callV (ci := 6) C dX6_fit_79 cw_X6_120 rfl (r_asLeft G rd S M Pi a ha h m hm5) Pi.ob rfl rfl (Nat.le_of_ble_eq_true rfl) (by omega) (by omega) (by omega) (by omega) (fun v M2 hq => ?_)
    obtain ⟨rfl, rfl⟩ := hq
    show GW G X 4 M2 0 0 82 _ [.int (nI (lfS a m))]
    refine g_if_le C dX6_fit_82 (tgt := 98) (by decide) (fun h0 => ?_) (fun h0 => ?_)
    · rw [if_neg (fun z => absurd h0 (nI_nle z.1 (by omega)))] at kk'
      refine g_inc1 C dX6_fit_98 rfl (by decide) ?_
      refine g_goto C dX6_fit_101 (tgt := 72) (by decide) ?_
      exact ih (m + 1) (by omega) kk'
    · have hz : 0 < lfS a m := Nat.pos_of_ne_zero (fun z => h0 (by rw [z]; decide))
      refine g_iload_n C dX6_fit_85 rfl ?_
      refine g_iload_n C dX6_fit_86 rfl ?_
      refine g_ishr C dX6_fit_87 ?_
      refine g_iconst C dX6_fit_88 (v := nI 1) rfl ?_
      refine g_iand C dX6_fit_89 ?_
      refine g_topI (bt32 _ hm _ hm5) ?_
      by_cases hbt : m0.testBit m = true
      · rw [if_neg (fun z => by rw [hbt] at z; exact absurd z.2.symm Bool.false_ne_true)] at kk'
        rw [if_pos hbt]
        refine g_if_ne C dX6_fit_90 (tgt := 98) (by decide) (fun h1 => ?_) (fun h1 => absurd h1 (by decide))
        refine g_inc1 C dX6_fit_98 rfl (by decide) ?_
        refine g_goto C dX6_fit_101 (tgt := 72) (by decide) ?_
        exact ih (m + 1) (by omega) kk'
      · rw [if_pos ⟨hz, Bool.not_eq_true _ ▸ hbt⟩] at kk'
        rw [if_neg hbt]
        refine g_if_ne C dX6_fit_90 (tgt := 98) (by decide) (fun h1 => absurd (by decide) h1) (fun h1 => ?_)
        refine g_bipush C dX6_fit_93 (v := nI 11) rfl ?_
        refine g_iload_n C dX6_fit_95 rfl ?_
        refine g_iadd C dX6_fit_96 ?_
        refine g_topI (nI_add 11 m) ?_
        exact kk' 97 (Or.inr (Or.inl rfl)) _

set_option maxHeartbeats 4000000 in
set_option maxRecDepth 100000 in
theorem l_rfit1 {G : fm_G} {rd : Nat → Nat} {S : Rs} {M : fm_M} {X : fm_X} {fr lo mc ms : Nat} {a : Ab} {n : Nat} (C : GC G X RX6 cX6_fit 4 (fr + 2) (lo + 50) mc ms) (Pi : RPic G rd S M) (ha : AbOk a) (h : RR a S) (hn : n < 5) : ∀ d m, m + d = 5 → (kk : ∀ pc, (pc = 57 ∨ pc = 97 ∨ pc = 105) → ∀ ls, GW G X 4 M 0 0 pc ls [.int (ft1 a n (swk a 4 (2 ^ n)) d m)]) → GW G X 4 M 0 0 25 [(0, .ref (rd 0)), (1, .int (nI n)), (2, .int (nI m))] [] := by
  intro d
  induction d with
  | zero =>
    intro m hd kk
    refine g_iload_n C dX6_fit_25 rfl ?_
    refine g_iconst C dX6_fit_26 (v := nI 5) rfl ?_
    refine g_icmp_geN C dX6_fit_27 (tgt := 64) (by decide) (by omega) (by decide) (fun hb => ?_) (fun hb => absurd hb (by omega))
    refine g_aload_n C dX6_fit_64 rfl ?_
    refine g_iload_n C dX6_fit_65 rfl ?_
    refine g_callV (ci := 6) C dX6_fit_66 cw_X6_126 rfl (r_reached G rd S M Pi a ha h n hn) Pi.ob rfl rfl (Nat.le_of_ble_eq_true rfl) (by omega) (by omega) (by omega) (by omega) (fun v M2 hq => ?_)
    obtain ⟨rfl, rfl⟩ := hq
    show GW G X 4 M2 0 0 69 _ [.int (nI (swk a 4 (2 ^ n)))]
    refine g_istore_n C dX6_fit_69 (by decide) ?_
    refine g_iconst C dX6_fit_70 (v := nI 0) rfl ?_
    refine g_istore_n C dX6_fit_71 (by decide) ?_
    exact l_rfit2 (fr := fr) (lo := lo) C Pi ha h (swk_lt a (sh32 n hn).2 4) 5 0 (by omega) kk
  | succ d ih =>
    intro m hd kk
    have hm5 : m < 5 := by omega
    have hle := lfS_le ha m
    have hle2 := stS_le ha (m + 1)
    have kk' : ∀ pc, (pc = 57 ∨ pc = 97 ∨ pc = 105) → ∀ ls, GW G X 4 M 0 0 pc ls [.int (if lfS a m = stS a (m + 1) + (if m = n then 1 else 0) then ft1 a n (swk a 4 (2 ^ n)) d (m + 1) else nI (1 + m))] := kk
    refine g_iload_n C dX6_fit_25 rfl ?_
    refine g_iconst C dX6_fit_26 (v := nI 5) rfl ?_
    refine g_icmp_geN C dX6_fit_27 (tgt := 64) (by decide) (by omega) (by decide) (fun hb => absurd hb (by omega)) (fun hb => ?_)
    refine g_aload_n C dX6_fit_30 rfl ?_
    refine g_iload_n C dX6_fit_31 rfl ?_
    refine g_callV (ci := 6) C dX6_fit_32 cw_X6_120 rfl (r_asLeft G rd S M Pi a ha h m hm5) Pi.ob rfl rfl (Nat.le_of_ble_eq_true rfl) (by omega) (by omega) (by omega) (by omega) (fun v M2 hq => ?_)
    obtain ⟨rfl, rfl⟩ := hq
    show GW G X 4 M2 0 0 35 _ [.int (nI (lfS a m))]
    refine g_aload_n C dX6_fit_35 rfl ?_
    refine g_iload_n C dX6_fit_36 rfl ?_
    refine g_callV (ci := 6) C dX6_fit_37 cw_X6_123 rfl (show fm_Ct G yX6_stands cX6_stands 4 (some .int) 1 24 0 0 [.ref (rd 0), .int (nI m)] M2 _ from r_stands G rd S M2 Pi a ha h (m + 1) (by omega)) Pi.ob rfl rfl (Nat.le_of_ble_eq_true rfl) (by omega) (by omega) (by omega) (by omega) (fun v M3 hq => ?_)
    obtain ⟨rfl, rfl⟩ := hq
    have fin : ∀ q, q = (if m = n then 1 else 0) → GW G X 4 M3 0 0 50 [(0, .ref (rd 0)), (1, .int (nI n)), (2, .int (nI m))] (.int (nI q) :: .int (nI (stS a (m + 1))) :: .int (nI (lfS a m)) :: []) := by
      intro q hq
      rw [← hq] at kk'
      have hq1 : q ≤ 1 := by rw [hq]; by_cases hz : m = n; rw [if_pos hz]; exact Nat.le_refl 1; rw [if_neg hz]; exact Nat.zero_le 1
      refine g_iadd C dX6_fit_50 ?_
      refine g_topI (nI_add _ _) ?_
      refine g_icmp_eqN C dX6_fit_51 (tgt := 58) (by decide) (by omega) (by omega) (fun h1 => ?_) (fun h1 => ?_)
      · rw [if_pos h1] at kk'
        refine g_inc1 C dX6_fit_58 rfl (by decide) ?_
        refine g_goto C dX6_fit_61 (tgt := 25) (by decide) ?_
        exact ih (m + 1) (by omega) kk'
      · rw [if_neg h1] at kk'
        refine g_iconst C dX6_fit_54 (v := nI 1) rfl ?_
        refine g_iload_n C dX6_fit_55 rfl ?_
        refine g_iadd C dX6_fit_56 ?_
        refine g_topI (nI_add 1 m) ?_
        exact kk' 57 (Or.inl rfl) _
    show GW G X 4 M3 0 0 40 _ (.int (nI (stS a (m + 1))) :: .int (nI (lfS a m)) :: [])
    refine g_iload_n C dX6_fit_40 rfl ?_
    refine g_iload_n C dX6_fit_41 rfl ?_
    refine g_icmp_neN C dX6_fit_42 (tgt := 49) (by decide) (by omega) (by omega) (fun h1 => ?_) (fun h1 => ?_)
    · skip
      refine g_iconst C dX6_fit_49 (v := nI 0) rfl ?_
      exact fin 0 (if_neg h1).symm
    · skip
      refine g_iconst C dX6_fit_45 (v := nI 1) rfl ?_
      refine g_goto C dX6_fit_46 (tgt := 50) (by decide) ?_
      exact fin 1 (if_pos h1).symm

set_option maxHeartbeats 4000000 in
set_option maxRecDepth 100000 in
theorem l_rfit {G : fm_G} {rd : Nat → Nat} {S : Rs} {M : fm_M} {X : fm_X} {n : Int32} (C : GC G X RX6 cX6_fit 4 2 50 0 0) (Pi : RPic G rd S M) (cont : ∀ S1 M1, RPic G rd S1 M1 → RFr rd M M1 → rsI S S1 0 (nI (thq (!(pB (okN n))) false false)) → GW G X 4 M1 0 0 18 [(0, .ref (rd 0)), (1, .int n)] [.int (bI (!(pB (okN n))))]) : GW G X 4 M 0 0 0 [(0, .ref (rd 0)), (1, .int n)] [] := by
  refine g_aload_n C dX6_fit_0 rfl ?_
  refine g_iload_n C dX6_fit_1 rfl ?_
  refine g_callS C dX6_fit_2 cw_X6_49 (r_isN G M n) rfl rfl (Nat.le_of_ble_eq_true rfl) (by decide) (by decide) (by decide) (by decide) (fun u M0 hq => ?_)
  obtain ⟨hM, rfl⟩ := hq
  rw [hM]
  clear hM
  show GW G X 4 M 0 0 5 _ [.int (bI (pB (okN n))), .ref (rd 0)]
  have fin : ∀ g, g = !(pB (okN n)) → GW G X 4 M 0 0 13 [(0, .ref (rd 0)), (1, .int n)] [.int (bI g), .ref (rd 0)] := by
    intro g hg
    refine g_iconst C dX6_fit_13 (v := nI 0) rfl ?_
    refine g_iconst C dX6_fit_14 (v := nI 0) rfl ?_
    refine g_callV (ci := 6) C dX6_fit_15 cw_X6_56 rfl (r_refuse G rd S M Pi g false false) Pi.ob rfl rfl (Nat.le_of_ble_eq_true rfl) (by decide) (by decide) (by decide) (by decide) (fun u M1 hq => ?_)
    obtain ⟨rfl, S1, P1, F1, A1⟩ := hq
    rw [Bool.or_false, Bool.or_false, hg]
    rw [hg] at A1
    exact cont S1 M1 P1 F1 A1
  cases hb : (pB (okN n)) with
  | true =>
    rw [hb] at fin
    refine g_if_ne C dX6_fit_5 (tgt := 12) (by decide) (fun _ => ?_) (fun q => absurd q (by decide))
    refine g_iconst C dX6_fit_12 (v := nI 0) rfl ?_
    exact fin false rfl
  | false =>
    rw [hb] at fin
    refine g_if_ne C dX6_fit_5 (tgt := 12) (by decide) (fun q => absurd (by decide) q) (fun _ => ?_)
    refine g_iconst C dX6_fit_8 (v := nI 1) rfl ?_
    refine g_goto C dX6_fit_9 (tgt := 13) (by decide) ?_
    exact fin true rfl

set_option maxHeartbeats 4000000 in
set_option maxRecDepth 100000 in
theorem r_fit_no (G : fm_G) (rd : Nat → Nat) (S : Rs) (M : fm_M) (Pi : RPic G rd S M) (a : Ab) (ha : AbOk a) (h : RR a S) (n : Int32) (hn : ¬ okN n) : fm_Ct G yX6_fit cX6_fit 4 (some .int) 2 50 0 0 [.ref (rd 0), .int n] M (fun v M1 => ∃ S', v = some (.int (nI 0)) ∧ RPic G rd S' M1 ∧ RFr rd M M1 ∧ RR a S' ∧ S'.2 0 = nI 1) := by
  refine fm_head (by decide) (Nat.le_of_ble_eq_true rfl) rfl (fun X C N0 rt => ?_)
  refine l_rfit C Pi (fun S1 M1 P1 F1 A1 => ?_)
  rw [pB_f hn] at A1 ⊢
  refine g_if_eq C dX6_fit_18 (tgt := 23) (by decide) (fun q => absurd q (by decide)) (fun _ => ?_)
  refine g_iconst C dX6_fit_21 (v := nI 0) rfl ?_
  exact rt (some (.int _)) M1 _ _ _ _ (fm_retI dX6_fit_22) ⟨S1, rfl, P1, F1, A1.RR0 h, A1.at⟩ (Nat.le_refl _) (Nat.le_refl _)

set_option maxHeartbeats 4000000 in
set_option maxRecDepth 100000 in
theorem r_fit (G : fm_G) (rd : Nat → Nat) (S : Rs) (M : fm_M) (Pi : RPic G rd S M) (a : Ab) (ha : AbOk a) (h : RR a S) (n : Nat) (hn : n < 5) : fm_Ct G yX6_fit cX6_fit 4 (some .int) 2 50 0 0 [.ref (rd 0), .int (nI n)] M (fun v M1 => ∃ S', v = some (.int (ft1 a n (swk a 4 (2 ^ n)) 5 0)) ∧ RPic G rd S' M1 ∧ RFr rd M M1 ∧ RR a S' ∧ S'.2 0 = nI 0) := by
  refine fm_head (by decide) (Nat.le_of_ble_eq_true rfl) rfl (fun X C N0 rt => ?_)
  refine l_rfit C Pi (fun S1 M1 P1 F1 A1 => ?_)
  rw [pB_t (show okN (nI n) from ⟨n, hn, rfl⟩)] at A1 ⊢
  have R1 := A1.RR0 h
  refine g_if_eq C dX6_fit_18 (tgt := 23) (by decide) (fun _ => ?_) (fun q => absurd (by decide) q)
  refine g_iconst C dX6_fit_23 (v := nI 0) rfl ?_
  refine g_istore_n C dX6_fit_24 (by decide) ?_
  refine l_rfit1 (fr := 0) (lo := 0) (S := S1) C P1 ha R1 hn 5 0 (by omega) (fun pc hpc ls => ?_)
  refine rt (some (.int _)) _ _ _ _ _ (fm_retI ?_) ⟨S1, rfl, P1, F1, R1, A1.at⟩ (Nat.le_refl _) (Nat.le_refl _)
  rcases hpc with rfl | rfl | rfl
  · exact dX6_fit_57
  · exact dX6_fit_97
  · exact dX6_fit_105

set_option maxHeartbeats 4000000 in
set_option maxRecDepth 100000 in
theorem l_rletters {G : fm_G} {rd : Nat → Nat} {S : Rs} {M : fm_M} {X : fm_X} {l : Int32} (C : GC G X RX6 cX6_letters 2 2 50 0 0) (Pi : RPic G rd S M) (cont : ∀ S1 M1, RPic G rd S1 M1 → RFr rd M M1 → rsI S S1 0 (nI (thq (!(pB (∃ j, j < 3 ∧ l = nI j))) false false)) → GW G X 2 M1 0 0 20 [(0, .ref (rd 0)), (1, .int l)] [.int (bI (!(pB (∃ j, j < 3 ∧ l = nI j))))]) : GW G X 2 M 0 0 0 [(0, .ref (rd 0)), (1, .int l)] [] := by
  refine g_aload_n C dX6_letters_0 rfl ?_
  refine g_iload_n C dX6_letters_1 rfl ?_
  refine g_iconst C dX6_letters_2 (v := nI 0) rfl ?_
  refine g_iconst C dX6_letters_3 (v := nI 2) rfl ?_
  refine g_callS C dX6_letters_4 cw_X6_45 (r_in G M l (nI 0) (nI 2)) rfl rfl (Nat.le_of_ble_eq_true rfl) (by decide) (by decide) (by decide) (by decide) (fun u M0 hq => ?_)
  obtain ⟨hM, rfl⟩ := hq
  rw [hM, pB_of (ok_in (x := l) (n := 2) (P := ∃ j, j < 3 ∧ l = nI j) (by decide) Iff.rfl rfl)]
  clear hM
  show GW G X 2 M 0 0 7 _ [.int (bI (pB (∃ j, j < 3 ∧ l = nI j))), .ref (rd 0)]
  have fin : ∀ g, g = !(pB (∃ j, j < 3 ∧ l = nI j)) → GW G X 2 M 0 0 15 [(0, .ref (rd 0)), (1, .int l)] [.int (bI g), .ref (rd 0)] := by
    intro g hg
    refine g_iconst C dX6_letters_15 (v := nI 0) rfl ?_
    refine g_iconst C dX6_letters_16 (v := nI 0) rfl ?_
    refine g_callV (ci := 6) C dX6_letters_17 cw_X6_56 rfl (r_refuse G rd S M Pi g false false) Pi.ob rfl rfl (Nat.le_of_ble_eq_true rfl) (by decide) (by decide) (by decide) (by decide) (fun u M1 hq => ?_)
    obtain ⟨rfl, S1, P1, F1, A1⟩ := hq
    rw [Bool.or_false, Bool.or_false, hg]
    rw [hg] at A1
    exact cont S1 M1 P1 F1 A1
  cases hb : (pB (∃ j, j < 3 ∧ l = nI j)) with
  | true =>
    rw [hb] at fin
    refine g_if_ne C dX6_letters_7 (tgt := 14) (by decide) (fun _ => ?_) (fun q => absurd q (by decide))
    refine g_iconst C dX6_letters_14 (v := nI 0) rfl ?_
    exact fin false rfl
  | false =>
    rw [hb] at fin
    refine g_if_ne C dX6_letters_7 (tgt := 14) (by decide) (fun q => absurd (by decide) q) (fun _ => ?_)
    refine g_iconst C dX6_letters_10 (v := nI 1) rfl ?_
    refine g_goto C dX6_letters_11 (tgt := 15) (by decide) ?_
    exact fin true rfl

set_option maxHeartbeats 4000000 in
set_option maxRecDepth 100000 in
theorem r_letters_no (G : fm_G) (rd : Nat → Nat) (S : Rs) (M : fm_M) (Pi : RPic G rd S M) (a : Ab) (ha : AbOk a) (h : RR a S) (l : Int32) (hk : ¬ ∃ j, j < 3 ∧ l = nI j) : fm_Ct G yX6_letters cX6_letters 2 (some .int) 2 50 0 0 [.ref (rd 0), .int l] M (fun v M1 => ∃ S', v = some (.int (nI 0)) ∧ RPic G rd S' M1 ∧ RFr rd M M1 ∧ RR a S' ∧ S'.2 0 = nI 1) := by
  refine fm_head (by decide) (Nat.le_of_ble_eq_true rfl) rfl (fun X C N0 rt => ?_)
  refine l_rletters C Pi (fun S1 M1 P1 F1 A1 => ?_)
  rw [pB_f hk] at A1 ⊢
  refine g_if_eq C dX6_letters_20 (tgt := 27) (by decide) (fun q => absurd q (by decide)) (fun _ => ?_)
  refine g_iconst C dX6_letters_23 (v := nI 0) rfl ?_
  refine g_goto C dX6_letters_24 (tgt := 34) (by decide) ?_
  exact rt (some (.int _)) M1 _ _ _ _ (fm_retI dX6_letters_34) ⟨S1, rfl, P1, F1, A1.RR0 h, A1.at⟩ (Nat.le_refl _) (Nat.le_refl _)

set_option maxHeartbeats 4000000 in
set_option maxRecDepth 100000 in
theorem r_letters (G : fm_G) (rd : Nat → Nat) (S : Rs) (M : fm_M) (Pi : RPic G rd S M) (a : Ab) (ha : AbOk a) (h : RR a S) (l : Nat) (hl : l < 3) : fm_Ct G yX6_letters cX6_letters 2 (some .int) 2 50 0 0 [.ref (rd 0), .int (nI l)] M (fun v M1 => ∃ S', v = some (.int (nI (stS a (6 + l)))) ∧ RPic G rd S' M1 ∧ RFr rd M M1 ∧ RR a S' ∧ S'.2 0 = nI 0) := by
  refine fm_head (by decide) (Nat.le_of_ble_eq_true rfl) rfl (fun X C N0 rt => ?_)
  refine l_rletters C Pi (fun S1 M1 P1 F1 A1 => ?_)
  rw [pB_t ⟨l, hl, rfl⟩] at A1 ⊢
  have R1 := A1.RR0 h
  have ed : dn (6 + l) = nI (5 + l) := by rw [show 6 + l = (5 + l) + 1 by omega]; rfl
  refine g_if_eq C dX6_letters_20 (tgt := 27) (by decide) (fun _ => ?_) (fun q => absurd (by decide) q)
  refine g_aload_n C dX6_letters_27 rfl ?_
  refine g_iconst C dX6_letters_28 (v := nI 5) rfl ?_
  refine g_iload_n C dX6_letters_29 rfl ?_
  refine g_iadd C dX6_letters_30 ?_
  refine g_topI ((nI_add 5 l).trans ed.symm) ?_
  refine g_callV (ci := 6) C dX6_letters_31 cw_X6_123 rfl (r_stands G rd S1 M1 P1 a ha R1 (6 + l) (by omega)) P1.ob rfl rfl (Nat.le_of_ble_eq_true rfl) (by decide) (by decide) (by decide) (by decide) (fun v M2 hq => ?_)
  obtain ⟨rfl, rfl⟩ := hq
  exact rt (some (.int _)) M2 _ _ _ _ (fm_retI dX6_letters_34) ⟨S1, rfl, P1, F1, R1, A1.at⟩ (Nat.le_refl _) (Nat.le_refl _)

