/-! THE REFERENCE: times, own, has, shift, reckonSums, isPlain -/
/-- the rules as the reference holds them -/
def ryI (a : Ab) (S : Rs) : Prop := S.2 1 = nI a.nR ∧ ∀ r, r < a.nR → S.1 1 r = nI (a.lf r) ∧ ∀ p, p < 4 → S.1 2 (4 * r + p) = dn (a.sy r p)
/-- the same but for sums -/
def eq5 (S S' : Rs) : Prop := S'.2 = S.2 ∧ ∀ k, k ≠ 5 → S'.1 k = S.1 k
theorem eq5.rf {S : Rs} : eq5 S S := ⟨rfl, fun _ _ => rfl⟩
theorem eq5.tr {S S' S'' : Rs} (h : eq5 S S') (h2 : eq5 S' S'') : eq5 S S'' := ⟨h2.1.trans h.1, fun k hk => (h2.2 k hk).trans (h.2 k hk)⟩
theorem raI.e5 {S S' : Rs} {f : Nat → Int32} (h : raI S S' 5 f) : eq5 S S' := ⟨h.2, fun k hk => h.ne hk⟩
theorem ryI.of {a : Ab} {S S' : Rs} (h : ryI a S) (h1 : S'.2 1 = S.2 1) (h2 : S'.1 1 = S.1 1) (h3 : S'.1 2 = S.1 2) : ryI a S' := ⟨by rw [h1]; exact h.1, fun r hr => ⟨by rw [h2]; exact (h.2 r hr).1, fun p hp => by rw [h3]; exact (h.2 r hr).2 p hp⟩⟩
theorem eq5.ry {a : Ab} {S S' : Rs} (h : eq5 S S') (hy : ryI a S) : ryI a S' := hy.of (by rw [h.1]) (h.2 1 (by decide)) (h.2 2 (by decide))
theorem dn_inj : ∀ a, a < 9 → ∀ b, b < 9 → dn a = dn b → a = b := by decide +kernel

set_option maxHeartbeats 4000000 in
set_option maxRecDepth 100000 in
theorem l_times {G : fm_G} {rd : Nat → Nat} {S : Rs} {M : fm_M} {X : fm_X} {fr lo mc ms : Nat} {a : Ab} {r k : Nat} (C : GC G X RX6 cX6_times 5 fr lo mc ms) (Pi : RPic G rd S M) (ha : AbOk a) (hy : ryI a S) (hr : r < a.nR) (hk : k < 9) (kk : ∀ ls, fm_lk ls 3 = some (.int (nI (tm (a.sy r) k 4))) → GW G X 5 M 0 0 42 ls []) : ∀ d p, p + d = 4 → GW G X 5 M 0 0 7 [(0, .ref (rd 0)), (1, .int (nI r)), (2, .int (dn k)), (3, .int (nI (tm (a.sy r) k p))), (4, .int (nI (4 * r + p)))] [] := by
  have h10 := ha.1
  intro d
  induction d with
  | zero =>
    intro p hp
    have e : p = 4 := by omega
    subst e
    refine g_iload C dX6_times_7 rfl ?_
    refine g_iconst C dX6_times_9 (v := nI 4) rfl ?_
    refine g_iload_n C dX6_times_10 rfl ?_
    refine g_imul C dX6_times_11 ?_
    refine g_topI (pk_mul 4 r) ?_
    refine g_iconst C dX6_times_12 (v := nI 4) rfl ?_
    refine g_iadd C dX6_times_13 ?_
    refine g_topI (nI_add _ _) ?_
    refine g_icmp_geN C dX6_times_14 (tgt := 42) (by decide) (by omega) (by omega) (fun hb => kk _ rfl) (fun hb => absurd hb (by omega))
  | succ d ih =>
    intro p hp
    have hs := (hy.2 r hr).2 p (by omega)
    have h9 := (ha.2.1 r hr).2.1 p (by omega)
    have ih1 := ih (p + 1) (by omega)
    rw [tm_s] at ih1
    refine g_iload C dX6_times_7 rfl ?_
    refine g_iconst C dX6_times_9 (v := nI 4) rfl ?_
    refine g_iload_n C dX6_times_10 rfl ?_
    refine g_imul C dX6_times_11 ?_
    refine g_topI (pk_mul 4 r) ?_
    refine g_iconst C dX6_times_12 (v := nI 4) rfl ?_
    refine g_iadd C dX6_times_13 ?_
    refine g_topI (nI_add _ _) ?_
    refine g_icmp_geN C dX6_times_14 (tgt := 42) (by decide) (by omega) (by omega) (fun hb => absurd hb (by omega)) (fun hb => ?_)
    refine g_aload_n C dX6_times_17 rfl ?_
    refine g_getf C fl_X6_13 dX6_times_18 Pi.ob rfl ?_
    refine g_iload C dX6_times_21 rfl ?_
    refine g_ialdN C dX6_times_23 Pi.k2 (by omega) (by decide) ?_
    rw [hs]
    refine g_iload_n C dX6_times_24 rfl ?_
    refine g_icmp_ne C dX6_times_25 (tgt := 34) (by decide) (fun hne => ?_) (fun heq => ?_)
    · rw [if_neg (fun z => hne (by rw [z]))] at ih1
      refine g_iload_n C dX6_times_34 rfl ?_
      refine g_istore_n C dX6_times_35 (by decide) ?_
      refine g_inc1 C dX6_times_36 rfl (by decide) ?_
      refine g_goto C dX6_times_39 (tgt := 7) (by decide) ?_
      exact ih1
    · rw [if_pos (dn_inj _ h9 _ hk heq)] at ih1
      refine g_iload_n C dX6_times_28 rfl ?_
      refine g_iconst C dX6_times_29 (v := nI 1) rfl ?_
      refine g_iadd C dX6_times_30 ?_
      refine g_topI (nI_add _ _) ?_
      refine g_goto C dX6_times_31 (tgt := 35) (by decide) ?_
      refine g_istore_n C dX6_times_35 (by decide) ?_
      refine g_inc1 C dX6_times_36 rfl (by decide) ?_
      refine g_goto C dX6_times_39 (tgt := 7) (by decide) ?_
      exact ih1

set_option maxHeartbeats 4000000 in
set_option maxRecDepth 100000 in
theorem r_times (G : fm_G) (rd : Nat → Nat) (S : Rs) (M : fm_M) (Pi : RPic G rd S M) (a : Ab) (ha : AbOk a) (hy : ryI a S) (r k : Nat) (hr : r < a.nR) (hk : k < 9) : fm_Ct G yX6_times cX6_times 5 (some .int) 0 0 0 0 [.ref (rd 0), .int (nI r), .int (dn k)] M (fun v M1 => v = some (.int (nI (tm (a.sy r) k 4))) ∧ M1 = M) := by
  refine fm_head (by decide) (Nat.le_of_ble_eq_true rfl) rfl (fun X C N0 rt => ?_)
  refine g_iconst C dX6_times_0 (v := nI 0) rfl ?_
  refine g_istore_n C dX6_times_1 (by decide) ?_
  refine g_iconst C dX6_times_2 (v := nI 4) rfl ?_
  refine g_iload_n C dX6_times_3 rfl ?_
  refine g_imul C dX6_times_4 ?_
  refine g_topI (pk_mul 4 r) ?_
  refine g_istore C dX6_times_5 (by decide) ?_
  refine l_times C Pi ha hy hr hk (fun ls hls => ?_) 4 0 (by omega)
  refine g_iload_n C dX6_times_42 hls ?_
  exact rt (some (.int _)) _ _ _ _ _ (fm_retI dX6_times_43) ⟨rfl, rfl⟩ (Nat.le_refl _) (Nat.le_refl _)

set_option maxHeartbeats 4000000 in
set_option maxRecDepth 100000 in
theorem r_own (G : fm_G) (rd : Nat → Nat) (S : Rs) (M : fm_M) (Pi : RPic G rd S M) (a : Ab) (ha : AbOk a) (hy : ryI a S) (r : Nat) (hr : r < a.nR) : fm_Ct G yX6_own cX6_own 2 (some .int) 1 24 0 0 [.ref (rd 0), .int (nI r)] M (fun v M1 => v = some (.int (nI (lcf (a.sy r) 4))) ∧ M1 = M) := by
  rw [lcf_tm _ 4 (ha.2.1 r hr).2.1]
  refine fm_head (by decide) (Nat.le_of_ble_eq_true rfl) rfl (fun X C N0 rt => ?_)
  refine g_aload_n C dX6_own_0 rfl ?_
  refine g_iload_n C dX6_own_1 rfl ?_
  refine g_iconst C dX6_own_2 (v := nI 5) rfl ?_
  refine g_callV (ci := 6) C dX6_own_3 cw_X6_64 rfl (r_times G rd S _ Pi a ha hy r 6 hr (by decide)) Pi.ob rfl rfl (Nat.le_of_ble_eq_true rfl) (by decide) (by decide) (by decide) (by decide) (fun v M1 hq => ?_)
  obtain ⟨rfl, hM⟩ := hq
  rw [hM]
  clear hM
  show GW G X 2 _ 0 0 6 _ (.int (nI (tm (a.sy r) 6 4)) :: [])
  refine g_bipush C dX6_own_6 (v := nI 8) rfl ?_
  refine g_aload_n C dX6_own_8 rfl ?_
  refine g_iload_n C dX6_own_9 rfl ?_
  refine g_bipush C dX6_own_10 (v := nI 6) rfl ?_
  refine g_callV (ci := 6) C dX6_own_12 cw_X6_64 rfl (r_times G rd S _ Pi a ha hy r 7 hr (by decide)) Pi.ob rfl rfl (Nat.le_of_ble_eq_true rfl) (by decide) (by decide) (by decide) (by decide) (fun v M1 hq => ?_)
  obtain ⟨rfl, hM⟩ := hq
  rw [hM]
  clear hM
  show GW G X 2 _ 0 0 15 _ (.int (nI (tm (a.sy r) 7 4)) :: .int (nI 8) :: .int (nI (tm (a.sy r) 6 4)) :: [])
  refine g_imul C dX6_own_15 ?_
  refine g_topI (pk_mul 8 _) ?_
  refine g_iadd C dX6_own_16 ?_
  refine g_topI (nI_add _ _) ?_
  refine g_bipush C dX6_own_17 (v := nI 64) rfl ?_
  refine g_aload_n C dX6_own_19 rfl ?_
  refine g_iload_n C dX6_own_20 rfl ?_
  refine g_bipush C dX6_own_21 (v := nI 7) rfl ?_
  refine g_callV (ci := 6) C dX6_own_23 cw_X6_64 rfl (r_times G rd S _ Pi a ha hy r 8 hr (by decide)) Pi.ob rfl rfl (Nat.le_of_ble_eq_true rfl) (by decide) (by decide) (by decide) (by decide) (fun v M1 hq => ?_)
  obtain ⟨rfl, hM⟩ := hq
  rw [hM]
  clear hM
  show GW G X 2 _ 0 0 26 _ (.int (nI (tm (a.sy r) 8 4)) :: .int (nI 64) :: .int _ :: [])
  refine g_imul C dX6_own_26 ?_
  refine g_topI (pk_mul 64 _) ?_
  refine g_iadd C dX6_own_27 ?_
  refine g_topI (nI_add _ _) ?_
  exact rt (some (.int _)) _ _ _ _ _ (fm_retI dX6_own_28) ⟨rfl, rfl⟩ (Nat.le_refl _) (Nat.le_refl _)

set_option maxHeartbeats 4000000 in
set_option maxRecDepth 100000 in
theorem r_has (G : fm_G) (rd : Nat → Nat) (S : Rs) (M : fm_M) (Pi : RPic G rd S M) (n c : Nat) (b : Int32) (hn : n < 5) (hc : c < 512) : fm_Ct G yX6_has cX6_has 5 (some .boolean) 0 0 0 0 [.ref (rd 0), .int (nI n), .int (nI c), .int b] M (fun v M1 => M1 = M ∧ v = some (.int (bI (decide (0 < S.1 4 (512 * n + c)) && decide (S.1 4 (512 * n + c) < b))))) := by
  refine fm_head (by decide) (Nat.le_of_ble_eq_true rfl) rfl (fun X C N0 rt => ?_)
  refine g_aload_n C dX6_has_0 rfl ?_
  refine g_getf C fl_X6_19 dX6_has_1 Pi.ob rfl ?_
  refine g_sipush C dX6_has_4 (v := nI 512) rfl ?_
  refine g_iload_n C dX6_has_7 rfl ?_
  refine g_imul C dX6_has_8 ?_
  refine g_topI (pk_mul 512 n) ?_
  refine g_iload_n C dX6_has_9 rfl ?_
  refine g_iadd C dX6_has_10 ?_
  refine g_topI (nI_add _ _) ?_
  refine g_ialdN C dX6_has_11 Pi.k4 (show 512 * n + c < 2560 by omega) (by decide) ?_
  refine g_istore C dX6_has_12 (by decide) ?_
  refine g_iload C dX6_has_14 rfl ?_
  refine g_if_le C dX6_has_16 (tgt := 29) (by decide) (fun h1 => ?_) (fun h1 => ?_)
  · rw [decide_eq_false (fun z => Int32.lt_irrefl (Int32.lt_of_lt_of_le z h1)), Bool.false_and] at rt
    refine g_iconst C dX6_has_29 (v := nI 0) rfl ?_
    exact rt (some (.int (bI false))) M _ _ _ _ (fm_retZ (bI_01 false) dX6_has_30) ⟨rfl, rfl⟩ (Nat.le_refl _) (Nat.le_refl _)
  rw [decide_eq_true (Int32.not_le.mp h1), Bool.true_and] at rt
  refine g_iload C dX6_has_19 rfl ?_
  refine g_iload_n C dX6_has_21 rfl ?_
  refine g_icmp_ge C dX6_has_22 (tgt := 29) (by decide) (fun h2 => ?_) (fun h2 => ?_)
  · rw [decide_eq_false (fun z => Int32.lt_irrefl (Int32.lt_of_lt_of_le z h2))] at rt
    refine g_iconst C dX6_has_29 (v := nI 0) rfl ?_
    exact rt (some (.int (bI false))) M _ _ _ _ (fm_retZ (bI_01 false) dX6_has_30) ⟨rfl, rfl⟩ (Nat.le_refl _) (Nat.le_refl _)
  · rw [decide_eq_true (Int32.not_le.mp h2)] at rt
    refine g_iconst C dX6_has_25 (v := nI 1) rfl ?_
    refine g_goto C dX6_has_26 (tgt := 30) (by decide) ?_
    exact rt (some (.int (bI true))) M _ _ _ _ (fm_retZ (bI_01 true) dX6_has_30) ⟨rfl, rfl⟩ (Nat.le_refl _) (Nat.le_refl _)

/-- a row of sums -/
def rowE (f : Nat → Int32) (p : Nat) (s : Nat → Bool) : Prop := ∀ v, v < 512 → f (512 * p + v) = bI (s v)
theorem rowE.of {f f' : Nat → Int32} {p : Nat} {s : Nat → Bool} (h : rowE f p s) (he : ∀ v, v < 512 → f' (512 * p + v) = f (512 * p + v)) : rowE f' p s := fun v hv => (he v hv).trans (h v hv)
/-- only row p differs -/
def offR (p : Nat) (f f' : Nat → Int32) : Prop := ∀ j, ¬ (512 * p ≤ j ∧ j < 512 * p + 512) → f' j = f j
theorem offR.tr {p : Nat} {f f' f'' : Nat → Int32} (h : offR p f f') (h2 : offR p f' f'') : offR p f f'' := fun j hj => (h2 j hj).trans (h j hj)
theorem offR.row {p q : Nat} {f f' : Nat → Int32} {s : Nat → Bool} (h : offR p f f') (hq : q ≠ p) (hr : rowE f q s) : rowE f' q s := hr.of (fun v hv => h _ (by omega))
def shI (d s : Nat → Bool) (c i : Nat) (d' : Nat → Bool) : Prop := ∀ v, v < 512 → (d' v = true ↔ (d v = true ∨ ∃ u, u < i ∧ s u = true ∧ okc u c = true ∧ v = u + c))
def upB (d : Nat → Bool) (k : Nat) (b : Bool) : Nat → Bool := fun j => if j = k then b else d j
theorem rowE_up {f : Nat → Int32} {p k : Nat} {d : Nat → Bool} {b : Bool} (h : rowE f p d) : rowE (upd f (512 * p + k) (bI b)) p (upB d k b) := by
  intro v hv
  unfold upB
  by_cases he : v = k
  · subst he; rw [pk_us, if_pos rfl]
  · rw [pk_un (by omega), if_neg he]; exact h v hv
theorem offR_up {f : Nat → Int32} {p k : Nat} {x : Int32} (hk : k < 512) : offR p f (upd f (512 * p + k) x) := fun j hj => pk_un (by omega)
theorem shI_skip {d s d' : Nat → Bool} {c i : Nat} (h : shI d s c i d') (hn : ¬ (s i = true ∧ okc i c = true)) : shI d s c (i + 1) d' := by
  intro v hv
  rw [h v hv]
  constructor
  · rintro (z | ⟨u, h1, h2⟩)
    · exact Or.inl z
    · exact Or.inr ⟨u, by omega, h2⟩
  · rintro (z | ⟨u, h1, h2, h3, h4⟩)
    · exact Or.inl z
    · refine Or.inr ⟨u, ?_, h2, h3, h4⟩
      have : u ≠ i := fun e => hn (by rw [← e]; exact ⟨h2, h3⟩)
      omega
theorem shI_hit {d s d' : Nat → Bool} {c i : Nat} (h : shI d s c i d') (h1 : s i = true) (h2 : okc i c = true) : shI d s c (i + 1) (upB d' (i + c) true) := by
  intro v hv
  unfold upB
  by_cases he : v = i + c
  · rw [if_pos he]
    exact ⟨fun _ => Or.inr ⟨i, Nat.lt_succ_self i, h1, h2, he⟩, fun _ => rfl⟩
  · rw [if_neg he, h v hv]
    constructor
    · rintro (z | ⟨u, q1, q2⟩)
      · exact Or.inl z
      · exact Or.inr ⟨u, by omega, q2⟩
    · rintro (z | ⟨u, q1, q2, q3, q4⟩)
      · exact Or.inl z
      · refine Or.inr ⟨u, ?_, q2, q3, q4⟩
        have : u ≠ i := fun e => he (by rw [← e]; exact q4)
        omega

set_option maxHeartbeats 4000000 in
set_option maxRecDepth 100000 in
theorem l_shift {G : fm_G} {rd : Nat → Nat} {S : Rs} {M : fm_M} {X : fm_X} {fr lo mc ms : Nat} {p c : Nat} {d s : Nat → Bool} (C : GC G X RX6 cX6_shift 5 (fr + 1) (lo + 24) mc ms) (hp : p < 4) (hc : c < 512) (hs0 : rowE (S.1 5) (p + 1) s) (kk : ∀ S' M1 ls d', RPic G rd S' M1 → RFr rd M M1 → eq5 S S' → offR p (S.1 5) (S'.1 5) → rowE (S'.1 5) p d' → shI d s c 512 d' → GW G X 5 M1 0 0 62 ls []) : ∀ e i S1 M1 d', i + e = 512 → RPic G rd S1 M1 → RFr rd M M1 → eq5 S S1 → offR p (S.1 5) (S1.1 5) → rowE (S1.1 5) p d' → shI d s c i d' → GW G X 5 M1 0 0 2 [(0, .ref (rd 0)), (1, .int (nI p)), (2, .int (nI c)), (3, .int (nI i))] [] := by
  intro e
  induction e with
  | zero =>
    intro i S1 M1 d' hi P1 F1 E1 O1 R1 I1
    have ee : i = 512 := by omega
    subst ee
    refine g_iload_n C dX6_shift_2 rfl ?_
    refine g_sipush C dX6_shift_3 (v := nI 512) rfl ?_
    refine g_icmp_geN C dX6_shift_6 (tgt := 62) (by decide) (by decide) (by decide) (fun hb => kk S1 M1 _ d' P1 F1 E1 O1 R1 I1) (fun hb => absurd hb (by omega))
  | succ e ih =>
    intro i S1 M1 d' hi P1 F1 E1 O1 R1 I1
    have hsv : S1.1 5 (512 * (p + 1) + i) = bI (s i) := (O1.row (show p + 1 ≠ p by omega) hs0) i (by omega)
    have nxt : ¬ (s i = true ∧ okc i c = true) → ∀ ls, fm_sel ls [0, 1, 2, 3] = some [(0, .ref (rd 0)), (1, .int (nI p)), (2, .int (nI c)), (3, .int (nI i))] → fm_lk ls 4 = some (.int (-1)) → GW G X 5 M1 0 0 37 ls [] := by
      intro hn ls hls h4
      refine g_iload C dX6_shift_37 h4 ?_
      refine g_if_lt C dX6_shift_39 (tgt := 56) (by decide) (fun hb => ?_) (fun hb => absurd (by decide) hb)
      refine g_loc [0, 1, 2, 3] hls ?_
      refine g_inc1 C dX6_shift_56 rfl (by decide) ?_
      refine g_goto C dX6_shift_59 (tgt := 2) (by decide) ?_
      exact ih (i + 1) S1 M1 d' (by omega) P1 F1 E1 O1 R1 (shI_skip I1 hn)
    refine g_iload_n C dX6_shift_2 rfl ?_
    refine g_sipush C dX6_shift_3 (v := nI 512) rfl ?_
    refine g_icmp_geN C dX6_shift_6 (tgt := 62) (by decide) (by omega) (by decide) (fun hb => absurd hb (by omega)) (fun hb => ?_)
    refine g_aload_n C dX6_shift_9 rfl ?_
    refine g_getf C fl_X6_22 dX6_shift_10 P1.ob rfl ?_
    refine g_sipush C dX6_shift_13 (v := nI 512) rfl ?_
    refine g_iload_n C dX6_shift_16 rfl ?_
    refine g_iconst C dX6_shift_17 (v := nI 1) rfl ?_
    refine g_iadd C dX6_shift_18 ?_
    refine g_topI (nI_add p 1) ?_
    refine g_imul C dX6_shift_19 ?_
    refine g_topI (pk_mul 512 (p + 1)) ?_
    refine g_iload_n C dX6_shift_20 rfl ?_
    refine g_iadd C dX6_shift_21 ?_
    refine g_topI (nI_add _ _) ?_
    refine g_zaldN C dX6_shift_22 P1.k5 (show 512 * (p + 1) + i < 2560 by omega) (by decide) ?_
    rw [hsv]
    refine g_if_eq C dX6_shift_23 (tgt := 34) (by decide) (fun h0 => ?_) (fun h0 => ?_)
    · skip
      refine g_iconst C dX6_shift_34 (v := -1) rfl ?_
      refine g_istore C dX6_shift_35 (by decide) ?_
      exact nxt (fun z => by rw [bI_0.mp h0] at z; exact absurd z.1 Bool.false_ne_true) _ rfl rfl
    · skip
      refine g_iload_n C dX6_shift_26 rfl ?_
      refine g_iload_n C dX6_shift_27 rfl ?_
      refine g_callS C dX6_shift_28 cw_X6_75 (r_sum G M1 i c (by omega) hc) rfl rfl (Nat.le_of_ble_eq_true rfl) (by omega) (by omega) (by omega) (by omega) (fun v M2 hq => ?_)
      obtain ⟨rfl, rfl⟩ := hq
      by_cases hok : okc i c = true
      · show GW G X 5 M2 0 0 31 _ [.int (if okc i c = true then nI (i + c) else -1)]
        rw [if_pos hok]
        have hlt := okc_lt hok
        refine g_goto C dX6_shift_31 (tgt := 35) (by decide) ?_
        refine g_istore C dX6_shift_35 (by decide) ?_
        refine g_iload C dX6_shift_37 rfl ?_
        refine g_if_lt C dX6_shift_39 (tgt := 56) (by decide) (fun hb => absurd hb (nI_pos (by omega))) (fun hb => ?_)
        refine g_aload_n C dX6_shift_42 rfl ?_
        refine g_getf C fl_X6_22 dX6_shift_43 P1.ob rfl ?_
        refine g_sipush C dX6_shift_46 (v := nI 512) rfl ?_
        refine g_iload_n C dX6_shift_49 rfl ?_
        refine g_imul C dX6_shift_50 ?_
        refine g_topI (pk_mul 512 p) ?_
        refine g_iload C dX6_shift_51 rfl ?_
        refine g_iadd C dX6_shift_53 ?_
        refine g_topI (nI_add _ _) ?_
        refine g_iconst C dX6_shift_54 (v := nI 1) rfl ?_
        refine g_topI (show nI 1 = bI true from rfl) ?_
        refine g_zastN C dX6_shift_55 P1.k5 (show 512 * p + (i + c) < 2560 by omega) (by decide) ?_
        refine g_abs (fun M' => ∃ S2, RPic G rd S2 M' ∧ RFr rd M M' ∧ raI S1 S2 5 (upd (S1.1 5) (512 * p + (i + c)) (bI true))) ⟨_, P1.ar (n := 2560) (by decide) (by decide) _ rfl, F1.st (k := 5) (by decide), rfl, rfl⟩ (fun M3 ⟨S3, P3, F3, A3⟩ => ?_)
        refine g_inc1 C dX6_shift_56 rfl (by decide) ?_
        refine g_goto C dX6_shift_59 (tgt := 2) (by decide) ?_
        refine g_loc [0, 1, 2, 3] rfl ?_
        refine ih (i + 1) S3 M3 _ (by omega) P3 F3 (E1.tr A3.e5) ?_ ?_ (shI_hit I1 (bI_n0.mp h0) hok)
        · rw [A3.at]; exact O1.tr (offR_up (by omega))
        · rw [A3.at]; exact rowE_up R1
      · show GW G X 5 M2 0 0 31 _ [.int (if okc i c = true then nI (i + c) else -1)]
        rw [if_neg hok]
        refine g_goto C dX6_shift_31 (tgt := 35) (by decide) ?_
        refine g_istore C dX6_shift_35 (by decide) ?_
        exact nxt (fun z => hok z.2) _ rfl rfl

set_option maxHeartbeats 4000000 in
set_option maxRecDepth 100000 in
theorem r_shift (G : fm_G) (rd : Nat → Nat) (S : Rs) (M : fm_M) (Pi : RPic G rd S M) (p c : Nat) (d s : Nat → Bool) (hp : p < 4) (hc : c < 512) (hs0 : rowE (S.1 5) (p + 1) s) (hd0 : rowE (S.1 5) p d) : fm_Ct G yX6_shift cX6_shift 5 none 1 24 0 0 [.ref (rd 0), .int (nI p), .int (nI c)] M (fun v M1 => v = none ∧ ∃ S' d', RPic G rd S' M1 ∧ RFr rd M M1 ∧ eq5 S S' ∧ offR p (S.1 5) (S'.1 5) ∧ rowE (S'.1 5) p d' ∧ shI d s c 512 d') := by
  refine fm_head (by decide) (Nat.le_of_ble_eq_true rfl) rfl (fun X C N0 rt => ?_)
  refine g_iconst C dX6_shift_0 (v := nI 0) rfl ?_
  refine g_istore_n C dX6_shift_1 (by decide) ?_
  exact l_shift (fr := 0) (lo := 0) (S := S) (M := M) C hp hc hs0 (fun S1 M1 ls d' P1 F1 E1 O1 R1 I1 => rt none M1 _ _ _ ls (fm_retV dX6_shift_62) ⟨rfl, S1, d', P1, F1, E1, O1, R1, I1⟩ (Nat.le_refl _) (Nat.le_refl _)) 512 0 S M d (by omega) Pi RFr.rf eq5.rf (fun _ _ => rfl) hd0 (fun v hv => ⟨fun z => Or.inl z, fun z => z.elim id (fun ⟨u, h, _⟩ => absurd h (Nat.not_lt_zero u))⟩)

set_option maxHeartbeats 4000000 in
set_option maxRecDepth 100000 in
theorem okN_dn {k : Nat} (hk : k < 9) : okN (dn k) ↔ isN k = true := by
  rw [isN_iff]
  constructor
  · rintro ⟨n, h1, h2⟩
    have : k = n + 1 := dn_inj k hk (n + 1) (by omega) h2
    omega
  · rintro ⟨h1, h2⟩
    refine ⟨k - 1, by omega, ?_⟩
    rw [show k = (k - 1) + 1 by omega]; rfl
theorem pN_dn {k : Nat} (hk : k < 9) : pB (okN (dn k)) = isN k := (pB_of (okN_dn hk).symm).symm

set_option maxHeartbeats 4000000 in
set_option maxRecDepth 100000 in
theorem l_isPlain {G : fm_G} {rd : Nat → Nat} {S : Rs} {M : fm_M} {X : fm_X} {fr lo mc ms : Nat} {a : Ab} {r : Nat} (C : GC G X RX6 cX6_isPlain 4 (fr + 2) (lo + 42) mc ms) (Pi : RPic G rd S M) (ha : AbOk a) (hy : ryI a S) (hr : r < a.nR) (kk : ∀ ls, fm_lk ls 2 = some (.int (bI (decide (nz (a.sy r) 4 = 0)))) → GW G X 4 M 0 0 41 ls []) : ∀ d p, p + d = 4 → GW G X 4 M 0 0 4 [(0, .ref (rd 0)), (1, .int (nI r)), (2, .int (bI (decide (nz (a.sy r) p = 0)))), (3, .int (nI p))] [] := by
  have h10 := ha.1
  intro d
  induction d with
  | zero =>
    intro p hp
    have e : p = 4 := by omega
    subst e
    refine g_iload_n C dX6_isPlain_4 rfl ?_
    refine g_iconst C dX6_isPlain_5 (v := nI 4) rfl ?_
    refine g_icmp_geN C dX6_isPlain_6 (tgt := 41) (by decide) (by decide) (by decide) (fun hb => kk _ rfl) (fun hb => absurd hb (by omega))
  | succ d ih =>
    intro p hp
    have hs := (hy.2 r hr).2 p (by omega)
    have h9 := (ha.2.1 r hr).2.1 p (by omega)
    have ih1 := ih (p + 1) (by omega)
    rw [nz_s] at ih1
    refine g_iload_n C dX6_isPlain_4 rfl ?_
    refine g_iconst C dX6_isPlain_5 (v := nI 4) rfl ?_
    refine g_icmp_geN C dX6_isPlain_6 (tgt := 41) (by decide) (by omega) (by decide) (fun hb => absurd hb (by omega)) (fun hb => ?_)
    refine g_iload_n C dX6_isPlain_9 rfl ?_
    refine g_if_eq C dX6_isPlain_10 (tgt := 33) (by decide) (fun h0 => ?_) (fun h0 => ?_)
    · have hz : ¬ nz (a.sy r) p = 0 := of_decide_eq_false (bI_0.mp h0)
      have e2 : decide (nz (a.sy r) p + (if isN (a.sy r p) = true then 1 else 0) = 0) = false := decide_eq_false (by omega)
      rw [e2] at ih1
      refine g_iconst C dX6_isPlain_33 (v := nI 0) rfl ?_
      refine g_istore_n C dX6_isPlain_34 (by decide) ?_
      refine g_inc1 C dX6_isPlain_35 rfl (by decide) ?_
      refine g_goto C dX6_isPlain_38 (tgt := 4) (by decide) ?_
      exact ih1
    · have hz : nz (a.sy r) p = 0 := of_decide_eq_true (bI_n0.mp h0)
      refine g_aload_n C dX6_isPlain_13 rfl ?_
      refine g_getf C fl_X6_13 dX6_isPlain_14 Pi.ob rfl ?_
      refine g_iconst C dX6_isPlain_17 (v := nI 4) rfl ?_
      refine g_iload_n C dX6_isPlain_18 rfl ?_
      refine g_imul C dX6_isPlain_19 ?_
      refine g_topI (pk_mul 4 r) ?_
      refine g_iload_n C dX6_isPlain_20 rfl ?_
      refine g_iadd C dX6_isPlain_21 ?_
      refine g_topI (nI_add _ _) ?_
      refine g_ialdN C dX6_isPlain_22 Pi.k2 (show 4 * r + p < 40 by omega) (by decide) ?_
      rw [hs]
      refine g_callS C dX6_isPlain_23 cw_X6_49 (r_isN G M (dn (a.sy r p))) rfl rfl (Nat.le_of_ble_eq_true rfl) (by omega) (by omega) (by omega) (by omega) (fun v M2 hq => ?_)
      obtain ⟨rfl, rfl⟩ := hq
      rw [pN_dn h9]
      show GW G X 4 M2 0 0 26 _ [.int (bI (isN (a.sy r p)))]
      cases hN : isN (a.sy r p) with
      | true =>
        have e2 : decide (nz (a.sy r) p + (if isN (a.sy r p) = true then 1 else 0) = 0) = false := decide_eq_false (by rw [if_pos hN]; omega)
        rw [e2] at ih1
        refine g_if_ne C dX6_isPlain_26 (tgt := 33) (by decide) (fun h1 => ?_) (fun h1 => absurd h1 (by decide))
        refine g_iconst C dX6_isPlain_33 (v := nI 0) rfl ?_
        refine g_istore_n C dX6_isPlain_34 (by decide) ?_
        refine g_inc1 C dX6_isPlain_35 rfl (by decide) ?_
        refine g_goto C dX6_isPlain_38 (tgt := 4) (by decide) ?_
        exact ih1
      | false =>
        have e2 : decide (nz (a.sy r) p + (if isN (a.sy r p) = true then 1 else 0) = 0) = true := decide_eq_true (by rw [if_neg (by rw [hN]; exact Bool.false_ne_true)]; omega)
        rw [e2] at ih1
        refine g_if_ne C dX6_isPlain_26 (tgt := 33) (by decide) (fun h1 => absurd (by decide) h1) (fun h1 => ?_)
        refine g_iconst C dX6_isPlain_29 (v := nI 1) rfl ?_
        refine g_goto C dX6_isPlain_30 (tgt := 34) (by decide) ?_
        refine g_istore_n C dX6_isPlain_34 (by decide) ?_
        refine g_inc1 C dX6_isPlain_35 rfl (by decide) ?_
        refine g_goto C dX6_isPlain_38 (tgt := 4) (by decide) ?_
        exact ih1

set_option maxHeartbeats 4000000 in
set_option maxRecDepth 100000 in
theorem r_isPlain (G : fm_G) (rd : Nat → Nat) (S : Rs) (M : fm_M) (Pi : RPic G rd S M) (a : Ab) (ha : AbOk a) (hy : ryI a S) (r : Nat) (hr : r < a.nR) : fm_Ct G yX6_isPlain cX6_isPlain 4 (some .boolean) 2 42 0 0 [.ref (rd 0), .int (nI r)] M (fun v M1 => v = some (.int (bI (decide (nz (a.sy r) 4 = 0)))) ∧ M1 = M) := by
  refine fm_head (by decide) (Nat.le_of_ble_eq_true rfl) rfl (fun X C N0 rt => ?_)
  refine g_iconst C dX6_isPlain_0 (v := nI 1) rfl ?_
  refine g_istore_n C dX6_isPlain_1 (by decide) ?_
  refine g_iconst C dX6_isPlain_2 (v := nI 0) rfl ?_
  refine g_istore_n C dX6_isPlain_3 (by decide) ?_
  refine l_isPlain (fr := 0) (lo := 0) C Pi ha hy hr (fun ls hls => ?_) 4 0 (by omega)
  refine g_iload_n C dX6_isPlain_41 hls ?_
  exact rt (some (.int _)) _ _ _ _ _ (fm_retZ (bI_01 _) dX6_isPlain_42) ⟨rfl, rfl⟩ (Nat.le_refl _) (Nat.le_refl _)

