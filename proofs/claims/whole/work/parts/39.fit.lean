/-! reachedFrom, fit, derive -/
theorem swp_s (a : Ab) (r m : Nat) : swp a (r + 1) m = if 0 < a.us r ∧ (swp a r m).testBit (a.lf r) = true then swp a r m ||| mkR a r else swp a r m := rfl

set_option maxHeartbeats 4000000 in
set_option maxRecDepth 100000 in
theorem l_rf1 {G : fm_G} {ad : Nat → Nat → Nat} {nr : Nat} {S : Cs} {M : fm_M} {X : fm_X} {fr lo mc ms : Nat} {a : Ab} {n m0 k : Nat} (C : GC G X RX5 cX5_reachedFrom 5 (fr + 1) (lo + 22) mc ms) (Pi : Pic G ad nr S M) (ha : AbOk a) (hnr : a.nR ≤ nr) (h : CR a S) (hm : m0 < 32) (kk : ∀ ls, fm_sel ls [0, 1, 2, 3] = some [(0, .ref (ad 7 0)), (1, .int (nI n)), (2, .int (nI (swp a a.nR m0))), (3, .int (nI k))] → GW G X 5 M 0 0 72 ls []) : ∀ d r, r + d = a.nR → GW G X 5 M 0 0 14 [(0, .ref (ad 7 0)), (1, .int (nI n)), (2, .int (nI (swp a r m0))), (3, .int (nI k)), (4, .int (nI r))] [] := by
  have h10 := ha.1
  obtain ⟨h1, h2, -⟩ := h
  have e0 : S.2.2 0 = nI a.nR := h1.1
  intro d
  induction d with
  | zero =>
    intro r hr
    have e : r = a.nR := by omega
    subst e
    refine g_iload C dX5_reachedFrom_14 rfl ?_
    refine g_aload_n C dX5_reachedFrom_16 rfl ?_
    refine g_getf C fl_X5_21 dX5_reachedFrom_17 Pi.klc rfl ?_
    rw [e0]
    refine g_icmp_geN C dX5_reachedFrom_20 (tgt := 72) (by decide) (by omega) (by omega) (fun hb => kk _ rfl) (fun hb => absurd hb (by omega))
  | succ d ih =>
    intro r hr
    have hrn : r < a.nR := by omega
    have hrr : r < nr := by omega
    have iR := h1.2 r hrn
    obtain ⟨i1, i2, -⟩ := h1.2 r hrn
    have i1' : S.2.2 (10 + r) = nI (a.lf r) := i1
    have i2' : a.lf r < 5 := i2
    have h50 := (ha.2.1 r hrn).2.2
    have ih1 := ih (r + 1) (by omega)
    rw [swp_s] at ih1
    refine g_iload C dX5_reachedFrom_14 rfl ?_
    refine g_aload_n C dX5_reachedFrom_16 rfl ?_
    refine g_getf C fl_X5_21 dX5_reachedFrom_17 Pi.klc rfl ?_
    rw [e0]
    refine g_icmp_geN C dX5_reachedFrom_20 (tgt := 72) (by decide) (by omega) (by omega) (fun hb => absurd hb (by omega)) (fun hb => ?_)
    refine g_aload_n C dX5_reachedFrom_23 rfl ?_
    refine g_getf C fl_X5_17 dX5_reachedFrom_24 Pi.klc rfl ?_
    refine g_iload C dX5_reachedFrom_27 rfl ?_
    refine g_aaldN C dX5_reachedFrom_29 Pi.krus rfl (by omega) (by decide) (krus_at hrr) ?_
    refine g_getf C fl_X5_128 dX5_reachedFrom_30 (Pi.kru hrr) rfl ?_
    rw [h2 r hrn]
    refine g_if_le C dX5_reachedFrom_33 (tgt := 66) (by decide) (fun h0 => ?_) (fun h0 => ?_)
    · have hz : ¬ (0 < a.us r ∧ (swp a r m0).testBit (a.lf r) = true) := fun z => absurd h0 (nI_nle z.1 (by omega))
      rw [if_neg hz] at ih1
      refine g_inc1 C dX5_reachedFrom_66 rfl (by decide) ?_
      refine g_goto C dX5_reachedFrom_69 (tgt := 14) (by decide) ?_
      exact ih1
    · have hz : 0 < a.us r := Nat.pos_of_ne_zero (fun z => h0 (by rw [z]; decide))
      refine g_iload_n C dX5_reachedFrom_36 rfl ?_
      refine g_aload_n C dX5_reachedFrom_37 rfl ?_
      refine g_getf C fl_X5_17 dX5_reachedFrom_38 Pi.klc rfl ?_
      refine g_iload C dX5_reachedFrom_41 rfl ?_
      refine g_aaldN C dX5_reachedFrom_43 Pi.krus rfl (by omega) (by decide) (krus_at hrr) ?_
      refine g_getf C fl_X5_173 dX5_reachedFrom_44 (Pi.kru hrr) rfl ?_
      rw [i1']
      refine g_ishr C dX5_reachedFrom_47 ?_
      refine g_iconst C dX5_reachedFrom_48 (v := nI 1) rfl ?_
      refine g_iand C dX5_reachedFrom_49 ?_
      refine g_topI (bt32 _ (swp_lt a hm r) _ (by omega)) ?_
      by_cases hbt : (swp a r m0).testBit (a.lf r) = true
      · rw [if_pos ⟨hz, hbt⟩] at ih1
        rw [if_pos hbt]
        refine g_if_eq C dX5_reachedFrom_50 (tgt := 66) (by decide) (fun h1 => absurd h1 (by decide)) (fun h1 => ?_)
        refine g_iload_n C dX5_reachedFrom_53 rfl ?_
        refine g_aload_n C dX5_reachedFrom_54 rfl ?_
        refine g_getf C fl_X5_17 dX5_reachedFrom_55 Pi.klc rfl ?_
        refine g_iload C dX5_reachedFrom_58 rfl ?_
        refine g_aaldN C dX5_reachedFrom_60 Pi.krus rfl (by omega) (by decide) (krus_at hrr) ?_
        refine g_callV (ci := 3) C dX5_reachedFrom_61 cw_X5_197 rfl (c_nonterminalBits G ad nr S M Pi r _ _ _ _ hrr iR) (Pi.kru hrr) rfl rfl (Nat.le_of_ble_eq_true rfl) (by omega) (by omega) (by omega) (by omega) (fun v M2 hq => ?_)
        obtain ⟨rfl, rfl⟩ := hq
        have e2 : bitsR (ptf (a.sy r) 4) (nz (a.sy r) 4) = nI (mkR a r) := bits_mk _ (fun j hj => ptf_lt 4 j hj)
        show GW G X 5 M2 0 0 64 _ (.int (bitsR (ptf (a.sy r) 4) (nz (a.sy r) 4)) :: .int (nI (swp a r m0)) :: [])
        rw [e2]
        refine g_ior C dX5_reachedFrom_64 ?_
        refine g_topI (or32 _ (swp_lt a hm r) _ (mkR_lt a r)).1 ?_
        refine g_istore_n C dX5_reachedFrom_65 (by decide) ?_
        refine g_inc1 C dX5_reachedFrom_66 rfl (by decide) ?_
        refine g_goto C dX5_reachedFrom_69 (tgt := 14) (by decide) ?_
        exact ih1
      · rw [if_neg (fun z => hbt z.2)] at ih1
        rw [if_neg hbt]
        refine g_if_eq C dX5_reachedFrom_50 (tgt := 66) (by decide) (fun h1 => ?_) (fun h1 => absurd (by decide) h1)
        refine g_inc1 C dX5_reachedFrom_66 rfl (by decide) ?_
        refine g_goto C dX5_reachedFrom_69 (tgt := 14) (by decide) ?_
        exact ih1

set_option maxHeartbeats 4000000 in
set_option maxRecDepth 100000 in
theorem l_rf2 {G : fm_G} {ad : Nat → Nat → Nat} {nr : Nat} {S : Cs} {M : fm_M} {X : fm_X} {fr lo mc ms : Nat} {a : Ab} {n : Nat} (C : GC G X RX5 cX5_reachedFrom 5 (fr + 1) (lo + 22) mc ms) (Pi : Pic G ad nr S M) (ha : AbOk a) (hnr : a.nR ≤ nr) (h : CR a S) (hn : n < 5) (kk : ∀ ls, fm_lk ls 2 = some (.int (nI (swk a 4 (2 ^ n)))) → GW G X 5 M 0 0 78 ls []) : ∀ d k, k + d = 4 → GW G X 5 M 0 0 6 [(0, .ref (ad 7 0)), (1, .int (nI n)), (2, .int (nI (swk a k (2 ^ n)))), (3, .int (nI (k + 1)))] [] := by
  intro d
  induction d with
  | zero =>
    intro k hk
    have e : k = 4 := by omega
    subst e
    refine g_iload_n C dX5_reachedFrom_6 rfl ?_
    refine g_iconst C dX5_reachedFrom_7 (v := nI 5) rfl ?_
    refine g_icmp_geN C dX5_reachedFrom_8 (tgt := 78) (by decide) (by decide) (by decide) (fun hb => kk _ rfl) (fun hb => absurd hb (by omega))
  | succ d ih =>
    intro k hk
    refine g_iload_n C dX5_reachedFrom_6 rfl ?_
    refine g_iconst C dX5_reachedFrom_7 (v := nI 5) rfl ?_
    refine g_icmp_geN C dX5_reachedFrom_8 (tgt := 78) (by decide) (by omega) (by decide) (fun hb => absurd hb (by omega)) (fun hb => ?_)
    refine g_iconst C dX5_reachedFrom_11 (v := nI 0) rfl ?_
    refine g_istore C dX5_reachedFrom_12 (by decide) ?_
    refine l_rf1 (fr := fr) (lo := lo) (n := n) (m0 := swk a k (2 ^ n)) (k := k + 1) C Pi ha hnr h (swk_lt a (sh32 n hn).2 k) (fun ls hls => ?_) a.nR 0 (by omega)
    refine g_loc [0, 1, 2, 3] hls ?_
    refine g_inc1 C dX5_reachedFrom_72 rfl (by decide) ?_
    refine g_goto C dX5_reachedFrom_75 (tgt := 6) (by decide) ?_
    exact ih (k + 1) (by omega)

set_option maxHeartbeats 4000000 in
set_option maxRecDepth 100000 in
theorem c_reached (G : fm_G) (ad : Nat → Nat → Nat) (nr : Nat) (S : Cs) (M : fm_M) (Pi : Pic G ad nr S M) (a : Ab) (ha : AbOk a) (hnr : a.nR ≤ nr) (h : CR a S) (n : Nat) (hn : n < 5) : fm_Ct G yX5_reachedFrom cX5_reachedFrom 5 (some .int) 1 22 0 0 [.ref (ad 7 0), .int (nI n)] M (fun v M1 => v = some (.int (nI (swk a 4 (2 ^ n)))) ∧ M1 = M) := by
  refine fm_head (by decide) (Nat.le_of_ble_eq_true rfl) rfl (fun X C N0 rt => ?_)
  refine g_iconst C dX5_reachedFrom_0 (v := nI 1) rfl ?_
  refine g_iload_n C dX5_reachedFrom_1 rfl ?_
  refine g_ishl C dX5_reachedFrom_2 ?_
  refine g_topI (sh32 n hn).1 ?_
  refine g_istore_n C dX5_reachedFrom_3 (by decide) ?_
  refine g_iconst C dX5_reachedFrom_4 (v := nI 1) rfl ?_
  refine g_istore_n C dX5_reachedFrom_5 (by decide) ?_
  refine l_rf2 (fr := 0) (lo := 0) (S := S) C Pi ha hnr h hn (fun ls hls => ?_) 4 0 (by omega)
  refine g_iload_n C dX5_reachedFrom_78 hls ?_
  exact rt (some (.int _)) _ _ _ _ _ (fm_retI dX5_reachedFrom_79) ⟨rfl, rfl⟩ (Nat.le_refl _) (Nat.le_refl _)

set_option maxHeartbeats 4000000 in
set_option maxRecDepth 100000 in
theorem l_fit2 {G : fm_G} {ad : Nat → Nat → Nat} {nr : Nat} {S : Cs} {M : fm_M} {X : fm_X} {fr lo mc ms : Nat} {a : Ab} {n m0 : Nat} (C : GC G X RX5 cX5_fit 4 (fr + 2) (lo + 46) mc ms) (Pi : Pic G ad nr S M) (ha : AbOk a) (hnr : a.nR ≤ nr) (h : CR a S) (hm : m0 < 32) : ∀ d m, m + d = 5 → (kk : ∀ pc, (pc = 40 ∨ pc = 80 ∨ pc = 88) → ∀ ls, GW G X 4 M 0 0 pc ls [.int (ft2 a m0 d m)]) → GW G X 4 M 0 0 55 [(0, .ref (ad 7 0)), (1, .int (nI n)), (2, .int (nI m0)), (3, .int (nI m))] [] := by
  intro d
  induction d with
  | zero =>
    intro m hd kk
    refine g_iload_n C dX5_fit_55 rfl ?_
    refine g_iconst C dX5_fit_56 (v := nI 5) rfl ?_
    refine g_icmp_geN C dX5_fit_57 (tgt := 87) (by decide) (by omega) (by decide) (fun hb => ?_) (fun hb => absurd hb (by omega))
    refine g_iconst C dX5_fit_87 (v := nI 0) rfl ?_
    exact kk 88 (Or.inr (Or.inr rfl)) _
  | succ d ih =>
    intro m hd kk
    have hm5 : m < 5 := by omega
    have hle := lfS_le ha m
    have kk' : ∀ pc, (pc = 40 ∨ pc = 80 ∨ pc = 88) → ∀ ls, GW G X 4 M 0 0 pc ls [.int (if 0 < lfS a m ∧ m0.testBit m = false then nI (11 + m) else ft2 a m0 d (m + 1))] := kk
    refine g_iload_n C dX5_fit_55 rfl ?_
    refine g_iconst C dX5_fit_56 (v := nI 5) rfl ?_
    refine g_icmp_geN C dX5_fit_57 (tgt := 87) (by decide) (by omega) (by decide) (fun hb => absurd hb (by omega)) (fun hb => ?_)
    refine g_aload_n C dX5_fit_60 rfl ?_
    refine g_iload_n C dX5_fit_61 rfl ?_
    refine g_callV (ci := 5) C dX5_fit_62 cw_X5_142 rfl (c_tl G ad nr S M Pi a ha hnr h m hm5) Pi.klc rfl rfl (Nat.le_of_ble_eq_true rfl) (by omega) (by omega) (by omega) (by omega) (fun v M2 hq => ?_)
    obtain ⟨rfl, rfl⟩ := hq
    show GW G X 4 M2 0 0 65 _ [.int (nI (lfS a m))]
    refine g_if_le C dX5_fit_65 (tgt := 81) (by decide) (fun h0 => ?_) (fun h0 => ?_)
    · rw [if_neg (fun z => absurd h0 (nI_nle z.1 (by omega)))] at kk'
      refine g_inc1 C dX5_fit_81 rfl (by decide) ?_
      refine g_goto C dX5_fit_84 (tgt := 55) (by decide) ?_
      exact ih (m + 1) (by omega) kk'
    · have hz : 0 < lfS a m := Nat.pos_of_ne_zero (fun z => h0 (by rw [z]; decide))
      refine g_iload_n C dX5_fit_68 rfl ?_
      refine g_iload_n C dX5_fit_69 rfl ?_
      refine g_ishr C dX5_fit_70 ?_
      refine g_iconst C dX5_fit_71 (v := nI 1) rfl ?_
      refine g_iand C dX5_fit_72 ?_
      refine g_topI (bt32 _ hm _ hm5) ?_
      by_cases hbt : m0.testBit m = true
      · rw [if_neg (fun z => by rw [hbt] at z; exact absurd z.2.symm Bool.false_ne_true)] at kk'
        rw [if_pos hbt]
        refine g_if_ne C dX5_fit_73 (tgt := 81) (by decide) (fun h1 => ?_) (fun h1 => absurd h1 (by decide))
        refine g_inc1 C dX5_fit_81 rfl (by decide) ?_
        refine g_goto C dX5_fit_84 (tgt := 55) (by decide) ?_
        exact ih (m + 1) (by omega) kk'
      · rw [if_pos ⟨hz, Bool.not_eq_true _ ▸ hbt⟩] at kk'
        rw [if_neg hbt]
        refine g_if_ne C dX5_fit_73 (tgt := 81) (by decide) (fun h1 => absurd (by decide) h1) (fun h1 => ?_)
        refine g_bipush C dX5_fit_76 (v := nI 11) rfl ?_
        refine g_iload_n C dX5_fit_78 rfl ?_
        refine g_iadd C dX5_fit_79 ?_
        refine g_topI (nI_add 11 m) ?_
        exact kk' 80 (Or.inr (Or.inl rfl)) _

set_option maxHeartbeats 4000000 in
set_option maxRecDepth 100000 in
theorem l_fit1 {G : fm_G} {ad : Nat → Nat → Nat} {nr : Nat} {S : Cs} {M : fm_M} {X : fm_X} {fr lo mc ms : Nat} {a : Ab} {n : Nat} (C : GC G X RX5 cX5_fit 4 (fr + 2) (lo + 46) mc ms) (Pi : Pic G ad nr S M) (ha : AbOk a) (hnr : a.nR ≤ nr) (h : CR a S) (hn : n < 5) : ∀ d m, m + d = 5 → (kk : ∀ pc, (pc = 40 ∨ pc = 80 ∨ pc = 88) → ∀ ls, GW G X 4 M 0 0 pc ls [.int (ft1 a n (swk a 4 (2 ^ n)) d m)]) → GW G X 4 M 0 0 6 [(0, .ref (ad 7 0)), (1, .int (nI n)), (2, .int (nI m))] [] := by
  intro d
  induction d with
  | zero =>
    intro m hd kk
    refine g_iload_n C dX5_fit_6 rfl ?_
    refine g_iconst C dX5_fit_7 (v := nI 5) rfl ?_
    refine g_icmp_geN C dX5_fit_8 (tgt := 47) (by decide) (by omega) (by decide) (fun hb => ?_) (fun hb => absurd hb (by omega))
    refine g_aload_n C dX5_fit_47 rfl ?_
    refine g_iload_n C dX5_fit_48 rfl ?_
    refine g_callV (ci := 5) C dX5_fit_49 cw_X5_145 rfl (c_reached G ad nr S M Pi a ha hnr h n hn) Pi.klc rfl rfl (Nat.le_of_ble_eq_true rfl) (by omega) (by omega) (by omega) (by omega) (fun v M2 hq => ?_)
    obtain ⟨rfl, rfl⟩ := hq
    show GW G X 4 M2 0 0 52 _ [.int (nI (swk a 4 (2 ^ n)))]
    refine g_istore_n C dX5_fit_52 (by decide) ?_
    refine g_iconst C dX5_fit_53 (v := nI 0) rfl ?_
    refine g_istore_n C dX5_fit_54 (by decide) ?_
    exact l_fit2 (fr := fr) (lo := lo) C Pi ha hnr h (swk_lt a (sh32 n hn).2 4) 5 0 (by omega) kk
  | succ d ih =>
    intro m hd kk
    have hm5 : m < 5 := by omega
    have hle := lfS_le ha m
    have hle2 := stS_le ha (m + 1)
    have kk' : ∀ pc, (pc = 40 ∨ pc = 80 ∨ pc = 88) → ∀ ls, GW G X 4 M 0 0 pc ls [.int (if lfS a m = stS a (m + 1) + (if m = n then 1 else 0) then ft1 a n (swk a 4 (2 ^ n)) d (m + 1) else nI (1 + m))] := kk
    refine g_iload_n C dX5_fit_6 rfl ?_
    refine g_iconst C dX5_fit_7 (v := nI 5) rfl ?_
    refine g_icmp_geN C dX5_fit_8 (tgt := 47) (by decide) (by omega) (by decide) (fun hb => absurd hb (by omega)) (fun hb => ?_)
    refine g_aload_n C dX5_fit_11 rfl ?_
    refine g_iload_n C dX5_fit_12 rfl ?_
    refine g_callV (ci := 5) C dX5_fit_13 cw_X5_139 rfl (c_tr G ad nr S M Pi a ha hnr h m hm5) Pi.klc rfl rfl (Nat.le_of_ble_eq_true rfl) (by omega) (by omega) (by omega) (by omega) (fun v M2 hq => ?_)
    obtain ⟨rfl, rfl⟩ := hq
    have fin : ∀ q, q = (if m = n then 1 else 0) → GW G X 4 M2 0 0 26 [(0, .ref (ad 7 0)), (1, .int (nI n)), (2, .int (nI m))] (.int (nI q) :: .int (nI (stS a (m + 1))) :: []) := by
      intro q hq
      rw [← hq] at kk'
      have hq1 : q ≤ 1 := by rw [hq]; by_cases hz : m = n; rw [if_pos hz]; exact Nat.le_refl 1; rw [if_neg hz]; exact Nat.zero_le 1
      refine g_iadd C dX5_fit_26 ?_
      refine g_topI (nI_add _ _) ?_
      refine g_istore_n C dX5_fit_27 (by decide) ?_
      refine g_aload_n C dX5_fit_28 rfl ?_
      refine g_iload_n C dX5_fit_29 rfl ?_
      refine g_callV (ci := 5) C dX5_fit_30 cw_X5_142 rfl (c_tl G ad nr S M2 Pi a ha hnr h m hm5) Pi.klc rfl rfl (Nat.le_of_ble_eq_true rfl) (by omega) (by omega) (by omega) (by omega) (fun v M3 hq3 => ?_)
      obtain ⟨rfl, rfl⟩ := hq3
      show GW G X 4 M3 0 0 33 _ [.int (nI (lfS a m))]
      refine g_iload_n C dX5_fit_33 rfl ?_
      refine g_icmp_eqN C dX5_fit_34 (tgt := 41) (by decide) (by omega) (by omega) (fun h1 => ?_) (fun h1 => ?_)
      · rw [if_pos h1] at kk'
        refine g_inc1 C dX5_fit_41 rfl (by decide) ?_
        refine g_goto C dX5_fit_44 (tgt := 6) (by decide) ?_
        exact g_loc [0, 1, 2] rfl (ih (m + 1) (by omega) kk')
      · rw [if_neg h1] at kk'
        refine g_iconst C dX5_fit_37 (v := nI 1) rfl ?_
        refine g_iload_n C dX5_fit_38 rfl ?_
        refine g_iadd C dX5_fit_39 ?_
        refine g_topI (nI_add 1 m) ?_
        exact kk' 40 (Or.inl rfl) _
    show GW G X 4 M2 0 0 16 _ [.int (nI (stS a (m + 1)))]
    refine g_iload_n C dX5_fit_16 rfl ?_
    refine g_iload_n C dX5_fit_17 rfl ?_
    refine g_icmp_neN C dX5_fit_18 (tgt := 25) (by decide) (by omega) (by omega) (fun h1 => ?_) (fun h1 => ?_)
    · skip
      refine g_iconst C dX5_fit_25 (v := nI 0) rfl ?_
      exact fin 0 (if_neg h1).symm
    · skip
      refine g_iconst C dX5_fit_21 (v := nI 1) rfl ?_
      refine g_goto C dX5_fit_22 (tgt := 26) (by decide) ?_
      exact fin 1 (if_pos h1).symm

set_option maxHeartbeats 4000000 in
set_option maxRecDepth 100000 in
theorem c_fit (G : fm_G) (ad : Nat → Nat → Nat) (nr : Nat) (S : Cs) (M : fm_M) (Pi : Pic G ad nr S M) (a : Ab) (ha : AbOk a) (hnr : a.nR ≤ nr) (h : CR a S) (n : Nat) (hn : n < 5) : fm_Ct G yX5_fit cX5_fit 4 (some .int) 2 46 0 0 [.ref (ad 7 0), .int (nI n)] M (fun v M1 => v = some (.int (ft1 a n (swk a 4 (2 ^ n)) 5 0)) ∧ M1 = M) := by
  refine fm_head (by decide) (Nat.le_of_ble_eq_true rfl) rfl (fun X C N0 rt => ?_)
  refine g_iload_n C dX5_fit_0 rfl ?_
  refine g_callS C dX5_fit_1 cw_X5_44 (c_rqN G _ n hn) rfl rfl (Nat.le_of_ble_eq_true rfl) (by decide) (by decide) (by decide) (by decide) (fun v M0 hq => ?_)
  obtain ⟨rfl, rfl⟩ := hq
  show GW G X 4 _ 0 0 4 _ []
  refine g_iconst C dX5_fit_4 (v := nI 0) rfl ?_
  refine g_istore_n C dX5_fit_5 (by decide) ?_
  refine l_fit1 (fr := 0) (lo := 0) (S := S) C Pi ha hnr h hn 5 0 (by omega) (fun pc hpc ls => ?_)
  refine rt (some (.int _)) _ _ _ _ _ (fm_retI ?_) ⟨rfl, rfl⟩ (Nat.le_refl _) (Nat.le_refl _)
  rcases hpc with rfl | rfl | rfl
  · exact dX5_fit_40
  · exact dX5_fit_80
  · exact dX5_fit_88

/-- uses of rules below r are taken over -/
def dvI (u : Nat → Nat) (S S' : Cs) (r : Nat) : Prop := S'.1 = S.1 ∧ S'.2.1 = S.2.1 ∧ (∀ i, ¬ (20 ≤ i ∧ i < 20 + r) → S'.2.2 i = S.2.2 i) ∧ ∀ q, q < r → S'.2.2 (20 + q) = nI (u q)
theorem dvI_s {u : Nat → Nat} {S S1 S2 : Cs} {r : Nat} (h : dvI u S S1 r) (A : scI S1 S2 (20 + r) (nI (u r))) : dvI u S S2 (r + 1) := by
  obtain ⟨h1, h2, h3, h4⟩ := h
  refine ⟨A.1.trans h1, A.2.1.trans h2, fun i hi => ?_, fun q hq => ?_⟩
  · rw [A.ne (by omega)]; exact h3 i (by omega)
  · by_cases he : q = r
    · subst he; exact A.at
    · rw [A.ne (by omega)]; exact h4 q (by omega)

set_option maxHeartbeats 4000000 in
set_option maxRecDepth 100000 in
theorem l_derive {G : fm_G} {ad : Nat → Nat → Nat} {nr : Nat} {S : Cs} {M : fm_M} {X : fm_X} {fr lo mc ms : Nat} {a : Ab} {u : Nat → Nat} (C : GC G X RX5 cX5_derive 7 (fr + 6) (lo + 143) mc ms) (ha : AbOk a) (hnr : a.nR ≤ nr) (e0 : S.2.2 0 = nI a.nR) (hu : ∀ r, r < a.nR → S.2.1 72 r = nI (u r)) (kk : ∀ S' M1 ls, fm_lk ls 0 = some (.ref (ad 7 0)) → Pic G ad nr S' M1 → Fr ad nr M M1 → dvI u S S' a.nR → GW G X 7 M1 0 0 144 ls []) : ∀ d r S1 M1, r + d = a.nR → Pic G ad nr S1 M1 → Fr ad nr M M1 → dvI u S S1 r → GW G X 7 M1 0 0 109 [(0, .ref (ad 7 0)), (6, .int (nI r))] [] := by
  have h10 := ha.1
  have l72 : liv nr 2 72 := Or.inr (Or.inr (Or.inr (by omega)))
  intro d
  induction d with
  | zero =>
    intro r S1 M1 hr P1 F1 I1
    have e : r = a.nR := by omega
    subst e
    have e1 : S1.2.2 0 = nI a.nR := by rw [I1.2.2.1 0 (by omega)]; exact e0
    refine g_iload C dX5_derive_109 rfl ?_
    refine g_aload_n C dX5_derive_111 rfl ?_
    refine g_getf C fl_X5_21 dX5_derive_112 P1.klc rfl ?_
    rw [e1]
    refine g_icmp_geN C dX5_derive_115 (tgt := 144) (by decide) (by omega) (by omega) (fun hb => kk S1 M1 _ rfl P1 F1 I1) (fun hb => absurd hb (by omega))
  | succ d ih =>
    intro r S1 M1 hr P1 F1 I1
    have hrn : r < a.nR := by omega
    have hrr : r < nr := by omega
    have e1 : S1.2.2 0 = nI a.nR := by rw [I1.2.2.1 0 (by omega)]; exact e0
    have u1 : S1.2.1 72 r = nI (u r) := by rw [I1.2.1]; exact hu r hrn
    refine g_iload C dX5_derive_109 rfl ?_
    refine g_aload_n C dX5_derive_111 rfl ?_
    refine g_getf C fl_X5_21 dX5_derive_112 P1.klc rfl ?_
    rw [e1]
    refine g_icmp_geN C dX5_derive_115 (tgt := 144) (by decide) (by omega) (by omega) (fun hb => absurd hb (by omega)) (fun hb => ?_)
    refine g_aload_n C dX5_derive_118 rfl ?_
    refine g_getf C fl_X5_17 dX5_derive_119 P1.klc rfl ?_
    refine g_iload C dX5_derive_122 rfl ?_
    refine g_aaldN C dX5_derive_124 P1.krus rfl (by omega) (by decide) (krus_at hrr) ?_
    refine g_aload_n C dX5_derive_125 rfl ?_
    refine g_getf C fl_X5_39 dX5_derive_126 P1.klc rfl ?_
    refine g_getf C fl_X5_125 dX5_derive_129 P1.kwk rfl ?_
    refine g_iload C dX5_derive_132 rfl ?_
    refine g_ialdN C dX5_derive_134 (P1.kar (n := 10) l72 rfl) (by omega) (by decide) ?_
    rw [u1]
    refine g_putf C fl_X5_128 rfl dX5_derive_135 (P1.kru hrr) rfl rfl (Nat.le_of_ble_eq_true rfl) ?_
    refine g_abs (fun M' => ∃ S2, Pic G ad nr S2 M' ∧ Fr ad nr M M' ∧ scI S1 S2 (20 + r) (nI (u r))) ⟨_, P1.uses hrr (nI (u r)), F1.st (t := 4) (k := r) hrr, rfl, rfl, rfl⟩ (fun M2 ⟨S2, P2, F2, A2⟩ => ?_)
    refine g_inc1 C dX5_derive_138 rfl (by decide) ?_
    refine g_goto C dX5_derive_141 (tgt := 109) (by decide) ?_
    exact ih (r + 1) S2 M2 (by omega) P2 F2 (dvI_s I1 A2)

set_option maxHeartbeats 4000000 in
set_option maxRecDepth 100000 in
theorem c_derive (G : fm_G) (ad : Nat → Nat → Nat) (nr : Nat) (S : Cs) (M : fm_M) (Pi : Pic G ad nr S M) (a : Ab) (ha : AbOk a) (hnr : a.nR ≤ nr) (h : CR a S) (n x y z T : Nat) (hn : n < 5) (hx : x < 8) (hy : y < 8) (hz : z < 8) (hT : Tr (gO a) n (x + 8 * y + 64 * z)) (hG : Gd (gO a) n (x + 8 * y + 64 * z) T) : fm_Ct G yX5_derive cX5_derive 7 (some .int) 6 143 0 0 [.ref (ad 7 0), .int (nI n), .int (nI x), .int (nI y), .int (nI z)] M (fun v M1 => v = some (.int (nI T)) ∧ ∃ S', Pic G ad nr S' M1 ∧ Fr ad nr M M1 ∧ CR (a.nR, a.lf, a.sy, us (gO a) n (x + 8 * y + 64 * z) T, T, tr (gO a) n (x + 8 * y + 64 * z)) S') := by
  have hc : x + 8 * y + 64 * z < 512 := by omega
  have hl : 3 * n < 15 + 10 * nr := by omega
  have h10 := ha.1
  have hT5 := hG.2.1
  have l70 : liv nr 2 70 := Or.inr (Or.inr (Or.inr (by omega)))
  have l71 : liv nr 2 71 := Or.inr (Or.inr (Or.inr (by omega)))
  refine fm_head (by decide) (Nat.le_of_ble_eq_true rfl) rfl (fun X C N0 rt => ?_)
  refine g_iload_n C dX5_derive_0 rfl ?_
  refine g_callS C dX5_derive_1 cw_X5_44 (c_rqN G _ n hn) rfl rfl (Nat.le_of_ble_eq_true rfl) (by decide) (by decide) (by decide) (by decide) (fun v M0 hq => ?_)
  obtain ⟨rfl, hM⟩ := hq
  rw [hM]
  clear hM
  show GW G X 7 _ 0 0 4 _ []
  refine g_iload_n C dX5_derive_4 rfl ?_
  refine g_iload_n C dX5_derive_5 rfl ?_
  refine g_iload C dX5_derive_6 rfl ?_
  refine g_callS C dX5_derive_8 cw_X5_68 (c_countOf G _ x y z hx hy hz) rfl rfl (Nat.le_of_ble_eq_true rfl) (by decide) (by decide) (by decide) (by decide) (fun v M0 hq => ?_)
  obtain ⟨rfl, hM⟩ := hq
  rw [hM]
  clear hM
  show GW G X 7 _ 0 0 11 _ [.int (nI (x + 8 * y + 64 * z))]
  refine g_istore C dX5_derive_11 (by decide) ?_
  refine g_aload_n C dX5_derive_13 rfl ?_
  refine g_callV (ci := 5) C dX5_derive_14 cw_X5_72 rfl (c_workOut G ad nr S _ Pi a ha hnr h) Pi.klc rfl rfl (Nat.le_of_ble_eq_true rfl) (by decide) (by decide) (by decide) (by decide) (fun v M1 hq => ?_)
  obtain ⟨rfl, S1, P1, F1, R1, w1⟩ := hq
  show GW G X 7 M1 0 0 17 _ []
  generalize hcc : x + 8 * y + 64 * z = c at *
  refine g_aload_n C dX5_derive_17 rfl ?_
  refine g_getf C fl_X5_11 dX5_derive_18 P1.klc rfl ?_
  refine g_iload_n C dX5_derive_21 rfl ?_
  refine g_aaldN C dX5_derive_22 P1.knts rfl hn (by decide) (knts_at hn) ?_
  refine g_getf C fl_X5_79 dX5_derive_23 (P1.knt hn) rfl ?_
  refine g_iload C dX5_derive_26 rfl ?_
  refine g_callV (ci := 0) C dX5_derive_28 cw_X5_98 rfl (c_holds G _ _ M1 _ (P1.kset hl) (P1.kpl hl) c hc) (P1.kset hl) rfl rfl (Nat.le_of_ble_eq_true rfl) (by decide) (by decide) (by decide) (by decide) (fun v M2 hq => ?_)
  obtain ⟨rfl, rfl⟩ := hq
  show GW G X 7 M2 0 0 31 _ [.int (bI (bq (S1.1 (3 * n)) c))]
  rw [(wk_had w1 hn hc).mpr hT]
  refine g_if_ne C dX5_derive_31 (tgt := 44) (by decide) (fun h0 => ?_) (fun h0 => absurd h0 (by decide))
  refine g_aload_n C dX5_derive_44 rfl ?_
  refine g_getf C fl_X5_39 dX5_derive_45 P1.klc rfl ?_
  refine g_aload_n C dX5_derive_48 rfl ?_
  refine g_getf C fl_X5_11 dX5_derive_49 P1.klc rfl ?_
  refine g_aload_n C dX5_derive_52 rfl ?_
  refine g_getf C fl_X5_17 dX5_derive_53 P1.klc rfl ?_
  refine g_iload_n C dX5_derive_56 rfl ?_
  refine g_iload C dX5_derive_57 rfl ?_
  refine g_callV (ci := 4) C dX5_derive_59 cw_X5_107 rfl (c_through G ad nr S1 M2 P1 (gO a) n c (gO_ok ha) hnr R1.1 w1 hT) P1.kwk rfl rfl (Nat.le_of_ble_eq_true rfl) (by decide) (by decide) (by decide) (by decide) (fun v M3 hq => ?_)
  obtain ⟨b, S3, rfl, P3, F3, T3, b3, b4⟩ := hq
  have hb : b = true := by
    cases b with
    | true => rfl
    | false => exact absurd ⟨T, hG⟩ (b4 rfl)
  subst hb
  obtain ⟨T', g1, g2, g3, g4⟩ := b3 rfl
  have eT : T' = T := Gd_uniq g1 hG
  subst eT
  have R3 := R1.T ha T3
  show GW G X 7 M3 0 0 62 _ [.int (bI true)]
  refine g_if_ne C dX5_derive_62 (tgt := 75) (by decide) (fun h0 => ?_) (fun h0 => absurd h0 (by decide))
  refine g_aload_n C dX5_derive_75 rfl ?_
  refine g_aload_n C dX5_derive_76 rfl ?_
  refine g_getf C fl_X5_39 dX5_derive_77 P3.klc rfl ?_
  refine g_getf C fl_X5_116 dX5_derive_80 P3.kwk rfl ?_
  rw [g2]
  refine g_putf C fl_X5_33 rfl dX5_derive_83 P3.klc rfl rfl (Nat.le_of_ble_eq_true rfl) ?_
  refine g_abs (fun M' => ∃ S4, Pic G ad nr S4 M' ∧ Fr ad nr M M' ∧ scI S3 S4 2 (nI T')) ⟨_, P3.lc (i := 2) (by decide) _ rfl, (F1.tr F3).st (t := 7) (k := 0) rfl, rfl, rfl, rfl⟩ (fun M4 ⟨S4, P4, F4, A4⟩ => ?_)
  refine g_aload_n C dX5_derive_86 rfl ?_
  refine g_getf C fl_X5_39 dX5_derive_87 P4.klc rfl ?_
  refine g_getf C fl_X5_118 dX5_derive_90 P4.kwk rfl ?_
  refine g_iconst C dX5_derive_93 (v := nI 0) rfl ?_
  refine g_aload_n C dX5_derive_94 rfl ?_
  refine g_getf C fl_X5_29 dX5_derive_95 P4.klc rfl ?_
  refine g_iconst C dX5_derive_98 (v := nI 0) rfl ?_
  refine g_aload_n C dX5_derive_99 rfl ?_
  refine g_getf C fl_X5_33 dX5_derive_100 P4.klc rfl ?_
  rw [A4.at]
  refine g_copyI C cw_X5_119 dX5_derive_103 (P4.kar (n := 500) l71 rfl) (P4.kar (n := 500) l70 rfl) hT5 hT5 (by omega) (by decide) (by decide) ?_
  refine g_abs (fun M' => ∃ S5, Pic G ad nr S5 M' ∧ Fr ad nr M M' ∧ arI S4 S5 70 (va_cpy (S4.2.1 71) (S4.2.1 70) 0 0 T')) ⟨_, P4.ar l70 _ rfl, F4.st (t := 2) (k := 70) l70, rfl, rfl, rfl⟩ (fun M5 ⟨S5, P5, F5, A5⟩ => ?_)
  refine g_iconst C dX5_derive_106 (v := nI 0) rfl ?_
  refine g_istore C dX5_derive_107 (by decide) ?_
  refine g_loc [0, 6] rfl ?_
  have e5 : S5.2.2 0 = nI a.nR := by rw [A5.2.2, A4.ne (by decide)]; exact R3.1.1
  refine l_derive (fr := 0) (lo := 0) (S := S5) (M := M5) (u := us (gO a) n c T') C ha hnr e5 (fun r hr => ?_) (fun S6 M6 ls hls P6 F6 I6 => ?_) a.nR 0 S5 M5 (by omega) P5 Fr.rf ⟨rfl, rfl, fun _ _ => rfl, fun q hq => absurd hq (Nat.not_lt_zero q)⟩
  · rw [A5.ne (by decide), A4.2.1]; exact g4 r (by omega)
  have e6 : S6.2.2 2 = nI T' := by rw [I6.2.2.1 2 (by omega), A5.2.2, A4.at]
  refine g_aload_n C dX5_derive_144 hls ?_
  refine g_getf C fl_X5_33 dX5_derive_145 P6.klc rfl ?_
  rw [e6]
  refine rt (some (.int _)) M6 _ _ _ _ (fm_retI dX5_derive_148) ⟨rfl, S6, P6, F5.tr F6, ⟨?_, fun r hr => ?_⟩, fun r hr => I6.2.2.2 r hr, e6, fun t ht => ?_, ?_⟩ (Nat.le_refl _) (Nat.le_refl _)
  · rw [I6.2.2.1 0 (by omega)]; exact e5
  · have hr2 : r < a.nR := hr
    obtain ⟨a1, a2, a3, a4, a5, a6, a7⟩ := R3.1.2 r hr
    have sc : ∀ i, ¬ (20 ≤ i ∧ i < 20 + a.nR) → i ≠ 2 → S6.2.2 i = S3.2.2 i := fun i hi h2 => by rw [I6.2.2.1 i hi, A5.2.2, A4.ne h2]
    refine ⟨by rw [sc _ (by omega) (by omega)]; exact a1, a2, by rw [sc _ (by omega) (by omega)]; exact a3, a4, by rw [sc _ (by omega) (by omega)]; exact a5, a6, fun i hi => ⟨(a7 i hi).1, ?_⟩⟩
    rw [I6.2.1, A5.ne (by omega), A4.2.1]; exact (a7 i hi).2
  · have ht2 : t < T' := ht
    rw [I6.2.1, A5.at, pk_cpy_in (by omega) (by omega), A4.2.1]
    show S3.2.1 71 (0 + (t - 0)) = _
    rw [show 0 + (t - 0) = t by omega]; exact g3 t ht2
  · rw [I6.2.2.1 1 (by omega), A5.2.2, A4.ne (by decide)]
    rcases R3.2.2.2.2 with h5 | ⟨h5, h6⟩
    · exact Or.inl h5
    · refine Or.inr ⟨h5, (show wkI (gO a) S6 from wkI.of (gO_ok ha) ?_ (fun j hj => ?_) h6)⟩
      · rw [I6.1, A5.1, A4.1]
      · rw [I6.2.1, A5.ne (by omega), A4.2.1]
