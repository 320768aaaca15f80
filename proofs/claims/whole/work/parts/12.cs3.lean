/-! CountSet.addMoved, addSums -/
def fitL (bit : Nat) : Int64 := (72340172838076673 : Int64) * (((nI 255).toUInt32 >>> ((nI (bit % 8)).toUInt32 &&& Int32.toUInt32 31)).toInt32).toInt64
def mvf (g o : Nat → Int64) (pl bit i : Nat) : Nat → Int64 := fun j => if pl ≤ j ∧ j < i + pl then g j ||| ((o (j - pl) &&& fitL bit) <<< ((nI bit).toInt64 &&& 63)) else g j
theorem mvf_0 (g o : Nat → Int64) (pl bit : Nat) : mvf g o pl bit 0 = g := by
  funext j
  unfold mvf
  rw [if_neg (by omega)]
theorem mvf_at (g o : Nat → Int64) (pl bit i : Nat) : mvf g o pl bit i (i + pl) = g (i + pl) := by
  unfold mvf
  rw [if_neg (by omega)]
theorem mvf_s (g o : Nat → Int64) (pl bit i : Nat) : vp_updL (mvf g o pl bit i) (i + pl) (g (i + pl) ||| ((o i &&& fitL bit) <<< ((nI bit).toInt64 &&& 63))) = mvf g o pl bit (i + 1) := by
  funext j
  unfold vp_updL mvf
  by_cases h : j = i + pl
  · subst h
    rw [if_pos rfl, if_pos (by omega), show i + pl - pl = i by omega]
  · rw [if_neg h]
    by_cases h2 : pl ≤ j ∧ j < i + pl
    · rw [if_pos h2, if_pos (by omega)]
    · rw [if_neg h2, if_neg (by omega)]
theorem bq_mvf (g o : Nat → Int64) {pl bit : Nat} (hpl : pl < 8) (hbit : bit < 64) {c : Nat} (hc : c < 512) : bq (mvf g o pl bit (8 - pl)) c = (bq g c || (decide (64 * pl + bit ≤ c) && (okc (64 * pl + bit) (c - (64 * pl + bit)) && bq o (c - (64 * pl + bit))))) := by
  unfold bq mvf
  by_cases h : pl ≤ c / 64
  · rw [if_pos ⟨h, by omega⟩, b_or, b_shlb _ hbit (by omega), b_and]
    congr 1
    by_cases h2 : bit ≤ c % 64
    · have e1 : (c - (64 * pl + bit)) / 64 = c / 64 - pl := by omega
      have e2 : (c - (64 * pl + bit)) % 64 = c % 64 - bit := by omega
      have e3 : 64 * pl + bit ≤ c := by omega
      have hf : (fitL bit).toBitVec.getLsbD (c % 64 - bit) = decide ((c % 64 - bit) % 8 + bit % 8 < 8) := b_fit (bit % 8) (by omega) _ (by omega)
      have hk : okc (64 * pl + bit) (c - (64 * pl + bit)) = decide ((c % 64 - bit) % 8 + bit % 8 < 8) := by
        rw [Bool.eq_iff_iff, okc_iff, decide_eq_true_iff]
        omega
      rw [e1, e2, hf, hk, decide_eq_true h2, decide_eq_true e3, Bool.true_and, Bool.true_and, Bool.and_comm]
    · rw [decide_eq_false h2, Bool.false_and]
      by_cases h3 : 64 * pl + bit ≤ c
      · have hk : okc (64 * pl + bit) (c - (64 * pl + bit)) = false := by
          cases hk : okc (64 * pl + bit) (c - (64 * pl + bit)) with
          | false => rfl
          | true =>
            have := okc_iff.mp hk
            omega
        rw [hk, Bool.false_and, Bool.and_false]
      · rw [decide_eq_false h3, Bool.false_and]
  · rw [if_neg (by omega), decide_eq_false (show ¬ 64 * pl + bit ≤ c by omega), Bool.false_and, Bool.or_false]

set_option maxHeartbeats 4000000 in
set_option maxRecDepth 100000 in
theorem l_addMoved {G : fm_G} {X : fm_X} {fr lo mc ms kc ks a p : Nat} {M : fm_M} {g : Nat → Int64} {b q pl bit : Nat} {o : Nat → Int64} (C : GC G X RX0 cX0_addMoved 7 fr lo mc ms) (hc : M a = some (fm_O 0 [.ref p])) (hp : M p = some (fm_L G 8 g)) (hcb : M b = some (fm_O 0 [.ref q])) (hq : M q = some (fm_L G 8 o)) (hpq : q ≠ p) (hpl : pl < 8) (kk : ∀ ls, GW G X 7 (fm_set M p (fm_L G 8 (mvf g o pl bit (8 - pl)))) kc ks 57 ls []) : ∀ d i, i + pl + d = 8 → GW G X 7 (fm_set M p (fm_L G 8 (mvf g o pl bit i))) kc ks 18 [(0, .ref a), (1, .ref b), (2, .int (nI pl)), (3, .int (nI bit)), (4, .long (fitL bit)), (6, .int (nI i))] [] := by
  have ha : a ≠ p := fm_ne hc hp (fun h => nomatch h)
  have hb0 : b ≠ p := fm_ne hcb hp (fun h => nomatch h)
  intro d
  induction d with
  | zero =>
    intro i hi
    refine g_iload C dX0_addMoved_18 rfl ?_
    refine g_iload_n C dX0_addMoved_20 rfl ?_
    refine g_iadd C dX0_addMoved_21 ?_
    refine g_topI (nI_add i pl) ?_
    refine g_bipush C dX0_addMoved_22 (v := nI 8) rfl ?_
    refine g_icmp_geN C dX0_addMoved_24 (tgt := 57) (by decide) (by omega) (by decide) (fun hb => ?_) (fun hb => absurd hb (by omega))
    rw [show i = 8 - pl by omega]
    exact kk _
  | succ d ih =>
    intro i hi
    refine g_iload C dX0_addMoved_18 rfl ?_
    refine g_iload_n C dX0_addMoved_20 rfl ?_
    refine g_iadd C dX0_addMoved_21 ?_
    refine g_topI (nI_add i pl) ?_
    refine g_bipush C dX0_addMoved_22 (v := nI 8) rfl ?_
    refine g_icmp_geN C dX0_addMoved_24 (tgt := 57) (by decide) (by omega) (by decide) (fun hb => absurd hb (by omega)) (fun hb => ?_)
    refine g_aload_n C dX0_addMoved_27 rfl ?_
    refine g_getf C fl_X0_11 dX0_addMoved_28 (fm_o hc ha) rfl ?_
    refine g_iload C dX0_addMoved_31 rfl ?_
    refine g_iload_n C dX0_addMoved_33 rfl ?_
    refine g_iadd C dX0_addMoved_34 ?_
    refine g_topI (nI_add i pl) ?_
    refine g_dup2 C dX0_addMoved_35 rfl rfl ?_
    refine g_laldN C dX0_addMoved_36 (fm_set_eq _ _ _) hb (by decide) ?_
    refine g_aload_n C dX0_addMoved_37 rfl ?_
    refine g_getf C fl_X0_11 dX0_addMoved_38 (fm_o hcb hb0) rfl ?_
    refine g_iload C dX0_addMoved_41 rfl ?_
    refine g_laldN C dX0_addMoved_43 (fm_o hq hpq) (by omega) (by decide) ?_
    refine g_lload C dX0_addMoved_44 rfl ?_
    refine g_land C dX0_addMoved_46 ?_
    refine g_iload_n C dX0_addMoved_47 rfl ?_
    refine g_lshl C dX0_addMoved_48 ?_
    refine g_lor C dX0_addMoved_49 ?_
    refine g_lastN C dX0_addMoved_50 (fm_set_eq _ _ _) hb (by decide) ?_
    refine g_inc1 C dX0_addMoved_51 rfl (by decide) ?_
    refine g_goto C dX0_addMoved_54 (tgt := 18) (by decide) ?_
    rw [fm_set_set, mvf_at, mvf_s]
    exact ih (i + 1) (by omega)

set_option maxHeartbeats 4000000 in
set_option maxRecDepth 100000 in
theorem c_addMoved (G : fm_G) (a p : Nat) (M : fm_M) (g : Nat → Int64) (hc : M a = some (fm_O 0 [.ref p])) (hp : M p = some (fm_L G 8 g)) (b q : Nat) (o : Nat → Int64) (hcb : M b = some (fm_O 0 [.ref q])) (hq : M q = some (fm_L G 8 o)) (hpq : q ≠ p) (pl bit : Nat) (hpl : pl < 8) (hbit : bit < 64) : fm_Ct G yX0_addMoved cX0_addMoved 7 none 0 0 0 0 [.ref a, .ref b, .int (nI pl), .int (nI bit)] M (fun v M1 => v = none ∧ M1 = fm_set M p (fm_L G 8 (mvf g o pl bit (8 - pl)))) := by
  refine fm_head (by decide) (Nat.le_of_ble_eq_true rfl) rfl (fun X C N0 rt => ?_)
  refine g_ldc2 C dX0_addMoved_0 kc_X0_43 ?_
  refine g_sipush C dX0_addMoved_3 (v := nI 255) rfl ?_
  refine g_iload_n C dX0_addMoved_6 rfl ?_
  refine g_bipush C dX0_addMoved_7 (v := nI 7) rfl ?_
  refine g_iand C dX0_addMoved_9 ?_
  refine g_topI (b_an7 (c := bit) (by omega)) ?_
  refine g_iushr C dX0_addMoved_10 ?_
  refine g_i2l C dX0_addMoved_11 ?_
  refine g_lmul C dX0_addMoved_12 ?_
  refine g_lstore C dX0_addMoved_13 (by decide) ?_
  refine g_iconst C dX0_addMoved_15 (v := nI 0) rfl ?_
  refine g_istore C dX0_addMoved_16 (by decide) ?_
  have e0 : M = fm_set M p (fm_L G 8 (mvf g o pl bit 0)) := by rw [mvf_0, fm_set_id hp]
  refine g_mem e0 ?_
  exact l_addMoved C hc hp hcb hq hpq hpl (fun ls => rt none _ _ _ _ ls (fm_retV dX0_addMoved_57) ⟨rfl, rfl⟩ (Nat.le_refl _) (Nat.le_refl _)) (8 - pl) 0 (by omega)

/-- what addSums has reached, with the first n counts of s taken -/
def smI (g s o g' : Nat → Int64) (n : Nat) : Prop := ∀ c, c < 512 → (bq g' c = true ↔ (bq g c = true ∨ ∃ x, x < n ∧ x ≤ c ∧ bq s x = true ∧ okc x (c - x) = true ∧ bq o (c - x) = true))
theorem smI_0 (g s o : Nat → Int64) : smI g s o g 0 := fun c _ => ⟨Or.inl, fun h => h.elim id (fun ⟨x, hx, _⟩ => absurd hx (Nat.not_lt_zero x))⟩
theorem smI_skip {g s o g' : Nat → Int64} {n m : Nat} (h : smI g s o g' n) (hnm : n ≤ m) (h0 : ∀ x, n ≤ x → x < m → bq s x = false) : smI g s o g' m := by
  intro c hc
  rw [h c hc]
  constructor
  · rintro (h1 | ⟨x, hx, h1⟩)
    · exact Or.inl h1
    · exact Or.inr ⟨x, by omega, h1⟩
  · rintro (h1 | ⟨x, hx, h2, h3, h4⟩)
    · exact Or.inl h1
    · by_cases hn : x < n
      · exact Or.inr ⟨x, hn, h2, h3, h4⟩
      · rw [h0 x (by omega) hx] at h3
        cases h3
theorem smI_hit {g s o g' : Nat → Int64} {i bit : Nat} (h : smI g s o g' (64 * i + bit)) (hi : i < 8) (hbit : bit < 64) (hs : bq s (64 * i + bit) = true) : smI g s o (mvf g' o i bit (8 - i)) (64 * i + bit + 1) := by
  intro c hc
  rw [bq_mvf g' o hi hbit hc, Bool.or_eq_true, h c hc, Bool.and_eq_true, Bool.and_eq_true, decide_eq_true_iff]
  constructor
  · rintro ((h1 | ⟨x, hx, h1⟩) | ⟨h1, h2, h3⟩)
    · exact Or.inl h1
    · exact Or.inr ⟨x, by omega, h1⟩
    · exact Or.inr ⟨64 * i + bit, by omega, h1, hs, h2, h3⟩
  · rintro (h1 | ⟨x, hx, h2, h3, h4, h5⟩)
    · exact Or.inl (Or.inl h1)
    · by_cases hn : x < 64 * i + bit
      · exact Or.inl (Or.inr ⟨x, hn, h2, h3, h4, h5⟩)
      · have e : x = 64 * i + bit := by omega
        subst e
        exact Or.inr ⟨h2, h4, h5⟩
theorem bq_at (s : Nat → Int64) (i bit : Nat) (hbit : bit < 64) : bq s (64 * i + bit) = (s i).toBitVec.getLsbD bit := by
  unfold bq
  rw [show (64 * i + bit) / 64 = i by omega, show (64 * i + bit) % 64 = bit by omega]

set_option maxHeartbeats 4000000 in
set_option maxRecDepth 100000 in
theorem l_addSumsIn {G : fm_G} {X : fm_X} {fr lo mc ms a p b q d0 q2 i : Nat} {M : fm_M} {g s o : Nat → Int64} (C : GC G X RX0 cX0_addSums 7 (fr + 1) (lo + 26) mc ms) (hc : M a = some (fm_O 0 [.ref p])) (hp : M p = some (fm_L G 8 g)) (hcb : M b = some (fm_O 0 [.ref q])) (hq : M q = some (fm_L G 8 s)) (hcd : M d0 = some (fm_O 0 [.ref q2])) (hq2 : M q2 = some (fm_L G 8 o)) (hpq : q ≠ p) (hpq2 : q2 ≠ p) (hi : i < 8) (kk : ∀ (g' : Nat → Int64) (x6 : Int32), smI g s o g' (64 * i + 64) → GW G X 7 (fm_set M p (fm_L G 8 g')) 0 0 59 [(0, .ref a), (1, .ref b), (2, .ref d0), (3, .int (nI i)), (4, .long (s i)), (6, .int x6)] []) : ∀ d bit (g' : Nat → Int64), bit + d = 64 → smI g s o g' (64 * i + bit) → GW G X 7 (fm_set M p (fm_L G 8 g')) 0 0 19 [(0, .ref a), (1, .ref b), (2, .ref d0), (3, .int (nI i)), (4, .long (s i)), (6, .int (nI bit))] [] := by
  have ha : a ≠ p := fm_ne hc hp (fun h => nomatch h)
  have hb0 : b ≠ p := fm_ne hcb hp (fun h => nomatch h)
  have hd0 : d0 ≠ p := fm_ne hcd hp (fun h => nomatch h)
  intro d
  induction d with
  | zero =>
    intro bit g' hbit hI
    have e : bit = 64 := by omega
    subst e
    refine g_iload C dX0_addSums_19 rfl ?_
    refine g_bipush C dX0_addSums_21 (v := nI 64) rfl ?_
    refine g_icmp_geN C dX0_addSums_23 (tgt := 59) (by decide) (by decide) (by decide) (fun hb => ?_) (fun hb => absurd hb (by omega))
    exact kk g' _ hI
  | succ d ih =>
    intro bit g' hbit hI
    refine g_iload C dX0_addSums_19 rfl ?_
    refine g_bipush C dX0_addSums_21 (v := nI 64) rfl ?_
    refine g_icmp_geN C dX0_addSums_23 (tgt := 59) (by decide) (by omega) (by decide) (fun hb => absurd hb (by omega)) (fun hb => ?_)
    refine g_lload C dX0_addSums_26 rfl ?_
    refine g_lconst C dX0_addSums_28 (v := 0) rfl ?_
    refine g_lcmp C dX0_addSums_29 ?_
    refine g_if_eq C dX0_addSums_30 (tgt := 59) (by decide) (fun hz => ?_) (fun hz => ?_)
    · refine kk g' _ (smI_skip hI (by omega) (fun x h1 h2 => ?_))
      have e1 : x = 64 * i + (x - 64 * i) := by omega
      rw [e1, bq_at s i _ (by omega), (fm_cmp0 _).mp hz]
      exact b_zero _
    · skip
      refine g_lload C dX0_addSums_33 rfl ?_
      refine g_iload C dX0_addSums_35 rfl ?_
      refine g_lushr C dX0_addSums_37 ?_
      refine g_lconst C dX0_addSums_38 (v := 1) rfl ?_
      refine g_land C dX0_addSums_39 ?_
      refine g_lconst C dX0_addSums_40 (v := 0) rfl ?_
      refine g_lcmp C dX0_addSums_41 ?_
      refine g_if_eq C dX0_addSums_42 (tgt := 53) (by decide) (fun h0 => ?_) (fun h0 => ?_)
      · have hbit0 : bq s (64 * i + bit) = false := by rw [bq_at s i bit hb]; exact (b_get _ hb).mp ((fm_cmp0 _).mp h0)
        refine g_inc1 C dX0_addSums_53 rfl (by decide) ?_
        refine g_goto C dX0_addSums_56 (tgt := 19) (by decide) ?_
        refine ih (bit + 1) g' (by omega) (smI_skip hI (by omega) (fun x h1 h2 => ?_))
        rw [show x = 64 * i + bit by omega]; exact hbit0
      · have hbit1 : bq s (64 * i + bit) = true := by
          rw [bq_at s i bit hb]
          cases h9 : (s i).toBitVec.getLsbD bit with
          | true => rfl
          | false => exact absurd ((fm_cmp0 _).mpr ((b_get _ hb).mpr h9)) h0
        refine g_aload_n C dX0_addSums_45 rfl ?_
        refine g_aload_n C dX0_addSums_46 rfl ?_
        refine g_iload_n C dX0_addSums_47 rfl ?_
        refine g_iload C dX0_addSums_48 rfl ?_
        refine g_callV (ci := 0) C dX0_addSums_50 cw_X0_39 rfl (c_addMoved G a p _ g' (fm_o hc ha) (fm_set_eq _ _ _) d0 q2 o (fm_o hcd hd0) (fm_o hq2 hpq2) hpq2 i bit hi hb) (fm_o hc ha) rfl rfl (by decide) (by omega) (by omega) (by omega) (by omega) (fun v M1 hm => ?_)
        obtain ⟨rfl, rfl⟩ := hm
        rw [fm_set_set]
        show GW G X 7 _ 0 0 53 _ []
        refine g_inc1 C dX0_addSums_53 rfl (by decide) ?_
        refine g_goto C dX0_addSums_56 (tgt := 19) (by decide) ?_
        exact ih (bit + 1) _ (by omega) (smI_hit hI hi hb hbit1)

set_option maxHeartbeats 4000000 in
set_option maxRecDepth 100000 in
theorem l_addSums {G : fm_G} {X : fm_X} {fr lo mc ms a p b q d0 q2 : Nat} {M : fm_M} {g s o : Nat → Int64} (C : GC G X RX0 cX0_addSums 7 (fr + 1) (lo + 26) mc ms) (hc : M a = some (fm_O 0 [.ref p])) (hp : M p = some (fm_L G 8 g)) (hcb : M b = some (fm_O 0 [.ref q])) (hq : M q = some (fm_L G 8 s)) (hcd : M d0 = some (fm_O 0 [.ref q2])) (hq2 : M q2 = some (fm_L G 8 o)) (hpq : q ≠ p) (hpq2 : q2 ≠ p) (kk : ∀ (g' : Nat → Int64) ls, smI g s o g' 512 → GW G X 7 (fm_set M p (fm_L G 8 g')) 0 0 65 ls []) : ∀ d i (g' : Nat → Int64), i + d = 8 → smI g s o g' (64 * i) → GW G X 7 (fm_set M p (fm_L G 8 g')) 0 0 2 [(0, .ref a), (1, .ref b), (2, .ref d0), (3, .int (nI i))] [] := by
  have hb0 : b ≠ p := fm_ne hcb hp (fun h => nomatch h)
  intro d
  induction d with
  | zero =>
    intro i g' hi hI
    have e : i = 8 := by omega
    subst e
    refine g_iload_n C dX0_addSums_2 rfl ?_
    refine g_bipush C dX0_addSums_3 (v := nI 8) rfl ?_
    refine g_icmp_geN C dX0_addSums_5 (tgt := 65) (by decide) (by decide) (by decide) (fun hb => ?_) (fun hb => absurd hb (by omega))
    exact kk g' _ hI
  | succ d ih =>
    intro i g' hi hI
    refine g_iload_n C dX0_addSums_2 rfl ?_
    refine g_bipush C dX0_addSums_3 (v := nI 8) rfl ?_
    refine g_icmp_geN C dX0_addSums_5 (tgt := 65) (by decide) (by omega) (by decide) (fun hb => absurd hb (by omega)) (fun hb => ?_)
    refine g_aload_n C dX0_addSums_8 rfl ?_
    refine g_getf C fl_X0_11 dX0_addSums_9 (fm_o hcb hb0) rfl ?_
    refine g_iload_n C dX0_addSums_12 rfl ?_
    refine g_laldN C dX0_addSums_13 (fm_o hq hpq) hb (by decide) ?_
    refine g_lstore C dX0_addSums_14 (by decide) ?_
    refine g_iconst C dX0_addSums_16 (v := nI 0) rfl ?_
    refine g_istore C dX0_addSums_17 (by decide) ?_
    refine l_addSumsIn C hc hp hcb hq hcd hq2 hpq hpq2 hb (fun g2 x6 h2 => ?_) 64 0 g' (by decide) hI
    refine g_inc1 C dX0_addSums_59 rfl (by decide) ?_
    refine g_goto C dX0_addSums_62 (tgt := 2) (by decide) ?_
    refine g_loc [0, 1, 2, 3] rfl ?_
    exact ih (i + 1) g2 (by omega) (by rw [show 64 * (i + 1) = 64 * i + 64 by omega]; exact h2)

set_option maxHeartbeats 4000000 in
set_option maxRecDepth 100000 in
theorem c_addSums (G : fm_G) (a p b q d0 q2 : Nat) (M : fm_M) (g s o : Nat → Int64) (hc : M a = some (fm_O 0 [.ref p])) (hp : M p = some (fm_L G 8 g)) (hcb : M b = some (fm_O 0 [.ref q])) (hq : M q = some (fm_L G 8 s)) (hcd : M d0 = some (fm_O 0 [.ref q2])) (hq2 : M q2 = some (fm_L G 8 o)) (hpq : q ≠ p) (hpq2 : q2 ≠ p) : fm_Ct G yX0_addSums cX0_addSums 7 none 1 26 0 0 [.ref a, .ref b, .ref d0] M (fun v M1 => v = none ∧ ∃ g', M1 = fm_set M p (fm_L G 8 g') ∧ ∀ c, c < 512 → (bq g' c = true ↔ (bq g c = true ∨ sumq (bq s) (bq o) c))) := by
  refine fm_head (by decide) (Nat.le_of_ble_eq_true rfl) rfl (fun X C N0 rt => ?_)
  refine g_iconst C dX0_addSums_0 (v := nI 0) rfl ?_
  refine g_istore_n C dX0_addSums_1 (by decide) ?_
  refine g_mem (fm_set_id hp).symm ?_
  refine l_addSums (fr := 0) (lo := 0) C hc hp hcb hq hcd hq2 hpq hpq2 (fun g' ls hI => ?_) 8 0 g (by decide) (smI_0 g s o)
  refine rt none _ _ _ _ ls (fm_retV dX0_addSums_65) ⟨rfl, g', rfl, fun c hc => ?_⟩ (Nat.le_refl _) (Nat.le_refl _)
  rw [hI c hc]
  constructor
  · rintro (h1 | ⟨x, hx, h2, h3, h4, h5⟩)
    · exact Or.inl h1
    · exact Or.inr ⟨x, h2, h3, h4, h5⟩
  · rintro (h1 | ⟨x, h2, h3, h4, h5⟩)
    · exact Or.inl h1
    · exact Or.inr ⟨x, by omega, h2, h3, h4, h5⟩
