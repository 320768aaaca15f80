/-! THE REFERENCE: its picture. Places: 0 the object, 1 lefts, 2 symbols, 3 uses, 4 heights, 5 sums, 6 tree, 7 newTree, 8 newUses, 9 pile; scalars: 0 thrown, 1 rules, 2 reckoned, 3 steps, 4 newSteps, 5 height -/
abbrev Rs : Type := (Nat → Nat → Int32) × (Nat → Int32)
def lenR : Nat → Nat
  | 1 => 10
  | 2 => 40
  | 3 => 10
  | 4 => 2560
  | 6 => 501
  | 7 => 501
  | 8 => 10
  | _ => 2600
def rcel (G : fm_G) (rd : Nat → Nat) (S : Rs) : Nat → va_E
  | 0 => fm_O 6 [.int (S.2 0), .int (S.2 1), .ref (rd 1), .ref (rd 2), .ref (rd 3), .ref (rd 4), .int (S.2 2), .ref (rd 5), .int (S.2 3), .ref (rd 6), .int (S.2 4), .ref (rd 7), .ref (rd 8), .int (S.2 5), .ref (rd 9)]
  | 5 => fm_B G 2560 (S.1 5)
  | k => fm_I G (lenR k) (S.1 k)
def RPic (G : fm_G) (rd : Nat → Nat) (S : Rs) (M : fm_M) : Prop := (∀ k, k < 10 → M (rd k) = some (rcel G rd S k)) ∧ ∀ k k', k < 10 → k' < 10 → rd k = rd k' → k = k'
def RFr (rd : Nat → Nat) (M M1 : fm_M) : Prop := ∀ a, (∀ k, k < 10 → a ≠ rd k) → M1 a = M a
theorem RFr.rf {rd : Nat → Nat} {M : fm_M} : RFr rd M M := fun _ _ => rfl
theorem RFr.tr {rd : Nat → Nat} {M M1 M2 : fm_M} (h1 : RFr rd M M1) (h2 : RFr rd M1 M2) : RFr rd M M2 := fun a h => (h2 a h).trans (h1 a h)
theorem RFr.st {rd : Nat → Nat} {M M1 : fm_M} (h : RFr rd M M1) {k : Nat} {e : va_E} (hk : k < 10) : RFr rd M (fm_set M1 (rd k) e) := fun a ha => by rw [fm_set_ne _ _ (ha k hk)]; exact h a ha
section RPICS
variable {G : fm_G} {rd : Nat → Nat} {S : Rs} {M : fm_M}
theorem RPic.ob (P : RPic G rd S M) : M (rd 0) = some (fm_O 6 [.int (S.2 0), .int (S.2 1), .ref (rd 1), .ref (rd 2), .ref (rd 3), .ref (rd 4), .int (S.2 2), .ref (rd 5), .int (S.2 3), .ref (rd 6), .int (S.2 4), .ref (rd 7), .ref (rd 8), .int (S.2 5), .ref (rd 9)]) := P.1 0 (by decide)
theorem RPic.k1 (P : RPic G rd S M) : M (rd 1) = some (fm_I G 10 (S.1 1)) := P.1 1 (by decide)
theorem RPic.k2 (P : RPic G rd S M) : M (rd 2) = some (fm_I G 40 (S.1 2)) := P.1 2 (by decide)
theorem RPic.k3 (P : RPic G rd S M) : M (rd 3) = some (fm_I G 10 (S.1 3)) := P.1 3 (by decide)
theorem RPic.k4 (P : RPic G rd S M) : M (rd 4) = some (fm_I G 2560 (S.1 4)) := P.1 4 (by decide)
theorem RPic.k5 (P : RPic G rd S M) : M (rd 5) = some (fm_B G 2560 (S.1 5)) := P.1 5 (by decide)
theorem RPic.k6 (P : RPic G rd S M) : M (rd 6) = some (fm_I G 501 (S.1 6)) := P.1 6 (by decide)
theorem RPic.k7 (P : RPic G rd S M) : M (rd 7) = some (fm_I G 501 (S.1 7)) := P.1 7 (by decide)
theorem RPic.k8 (P : RPic G rd S M) : M (rd 8) = some (fm_I G 10 (S.1 8)) := P.1 8 (by decide)
theorem RPic.k9 (P : RPic G rd S M) : M (rd 9) = some (fm_I G 2600 (S.1 9)) := P.1 9 (by decide)
theorem RPic.up (P : RPic G rd S M) {S' : Rs} {k : Nat} (hk : k < 10) (h : ∀ k', k' < 10 → k' ≠ k → rcel G rd S' k' = rcel G rd S k') {e : va_E} (he : rcel G rd S' k = e) : RPic G rd S' (fm_set M (rd k) e) := by
  refine ⟨fun k' hk' => ?_, P.2⟩
  by_cases hq : k' = k
  · subst hq; rw [fm_set_eq, he]
  · rw [fm_set_ne _ _ (fun z => hq (P.2 k' k hk' hk z)), P.1 k' hk', h k' hk' hq]
theorem RPic.ar (P : RPic G rd S M) {k n : Nat} (hk : k < 10) (h0 : k ≠ 0) (f : Nat → Int32) {e : va_E} (he : rcel G rd (va_up S.1 k f, S.2) k = e) : RPic G rd (va_up S.1 k f, S.2) (fm_set M (rd k) e) := by
  refine P.up hk (fun k' hk' hq => ?_) he
  match k', hq with
  | 0, _ => rfl
  | 1, hq => show fm_I G _ (va_up S.1 k f 1) = _; rw [va_up_ne _ _ hq]; rfl
  | 2, hq => show fm_I G _ (va_up S.1 k f 2) = _; rw [va_up_ne _ _ hq]; rfl
  | 3, hq => show fm_I G _ (va_up S.1 k f 3) = _; rw [va_up_ne _ _ hq]; rfl
  | 4, hq => show fm_I G _ (va_up S.1 k f 4) = _; rw [va_up_ne _ _ hq]; rfl
  | 5, hq => show fm_B G _ (va_up S.1 k f 5) = _; rw [va_up_ne _ _ hq]; rfl
  | j + 6, hq => show fm_I G _ (va_up S.1 k f (j + 6)) = _; rw [va_up_ne _ _ hq]; rfl
theorem RPic.sc (P : RPic G rd S M) (i : Nat) (x : Int32) {e : va_E} (he : rcel G rd (S.1, va_up S.2 i x) 0 = e) : RPic G rd (S.1, va_up S.2 i x) (fm_set M (rd 0) e) := by
  refine P.up (k := 0) (by decide) (fun k' hk' hq => ?_) he
  match k', hq with
  | 0, hq => exact absurd rfl hq
  | 1, _ => rfl
  | 2, _ => rfl
  | 3, _ => rfl
  | 4, _ => rfl
  | 5, _ => rfl
  | _ + 6, _ => rfl
end RPICS
/-- a scalar, an array is changed, and nothing else -/
def rsI (S S' : Rs) (i : Nat) (x : Int32) : Prop := S'.1 = S.1 ∧ S'.2 = va_up S.2 i x
def raI (S S' : Rs) (j : Nat) (f : Nat → Int32) : Prop := S'.1 = va_up S.1 j f ∧ S'.2 = S.2
theorem rsI.at {S S' : Rs} {i : Nat} {x : Int32} (h : rsI S S' i x) : S'.2 i = x := by rw [h.2, va_up_self]
theorem rsI.ne {S S' : Rs} {i j : Nat} {x : Int32} (h : rsI S S' i x) (hj : j ≠ i) : S'.2 j = S.2 j := by rw [h.2, va_up_ne _ _ hj]
theorem raI.at {S S' : Rs} {i : Nat} {x : Nat → Int32} (h : raI S S' i x) : S'.1 i = x := by rw [h.1, va_up_self]
theorem raI.ne {S S' : Rs} {i j : Nat} {x : Nat → Int32} (h : raI S S' i x) (hj : j ≠ i) : S'.1 j = S.1 j := by rw [h.1, va_up_ne _ _ hj]

set_option maxHeartbeats 4000000 in
set_option maxRecDepth 100000 in
theorem r_in (G : fm_G) (M : fm_M) (v l h : Int32) : fm_Ct G yX6_in cX6_in 3 (some .boolean) 0 0 0 0 [.int v, .int l, .int h] M (fun r M1 => M1 = M ∧ r = some (.int (bI (decide (l ≤ v) && decide (v ≤ h))))) := by
  refine fm_head (by decide) (Nat.le_of_ble_eq_true rfl) rfl (fun X C N0 rt => ?_)
  refine g_iload_n C dX6_in_0 rfl ?_
  refine g_iload_n C dX6_in_1 rfl ?_
  refine g_icmp_lt C dX6_in_2 (tgt := 14) (by decide) (fun h1 => ?_) (fun h1 => ?_)
  · rw [decide_eq_false (fun z => Int32.lt_irrefl (Int32.lt_of_lt_of_le h1 z)), Bool.false_and] at rt
    refine g_iconst C dX6_in_14 (v := nI 0) rfl ?_
    exact rt (some (.int (bI false))) M _ _ _ _ (fm_retZ (bI_01 false) dX6_in_15) ⟨rfl, rfl⟩ (Nat.le_refl _) (Nat.le_refl _)
  refine g_iload_n C dX6_in_5 rfl ?_
  refine g_iload_n C dX6_in_6 rfl ?_
  rw [decide_eq_true (Int32.not_lt.mp h1), Bool.true_and] at rt
  refine g_icmp_gt C dX6_in_7 (tgt := 14) (by decide) (fun h2 => ?_) (fun h2 => ?_)
  · rw [decide_eq_false (fun z => Int32.lt_irrefl (Int32.lt_of_lt_of_le h2 z))] at rt
    refine g_iconst C dX6_in_14 (v := nI 0) rfl ?_
    exact rt (some (.int (bI false))) M _ _ _ _ (fm_retZ (bI_01 false) dX6_in_15) ⟨rfl, rfl⟩ (Nat.le_refl _) (Nat.le_refl _)
  · rw [decide_eq_true (Int32.not_lt.mp h2)] at rt
    refine g_iconst C dX6_in_10 (v := nI 1) rfl ?_
    refine g_goto C dX6_in_11 (tgt := 15) (by decide) ?_
    exact rt (some (.int (bI true))) M _ _ _ _ (fm_retZ (bI_01 true) dX6_in_15) ⟨rfl, rfl⟩ (Nat.le_refl _) (Nat.le_refl _)

theorem ok_in {x : Int32} {n : Nat} (hn : n < 2 ^ 30) {P : Prop} (hP : P ↔ ∃ j, j < n + 1 ∧ x = nI j) {b : Bool} (hb : b = (decide (nI 0 ≤ x) && decide (x ≤ nI n))) : b = true ↔ P := by
  rw [hb, hP, Bool.and_eq_true, decide_eq_true_iff, decide_eq_true_iff]
  constructor
  · rintro ⟨h1, h2⟩
    rcases pk_ix x (show n + 1 < 2 ^ 31 by omega) with z | z | z
    · exact absurd z (Int32.not_lt.mpr h1)
    · rw [i_le, nI_toInt (by omega)] at h2 z
      omega
    · exact z
  · rintro ⟨j, h1, rfl⟩
    exact ⟨(nI_leI (by omega) (by omega)).mpr (by omega), (nI_leI (by omega) (by omega)).mpr (by omega)⟩
theorem okN_b {x : Int32} : (decide (nI 0 ≤ x) && decide (x ≤ nI 4)) = true ↔ okN x := ok_in (by decide) Iff.rfl rfl
theorem okM_b {x : Int32} : (decide (nI 0 ≤ x) && decide (x ≤ nI 7)) = true ↔ okM x := ok_in (by decide) Iff.rfl rfl
theorem okS_b {x : Int32} : (decide (-1 ≤ x) && decide (x ≤ nI 7)) = true ↔ okS x := by
  rw [Bool.and_eq_true, decide_eq_true_iff, decide_eq_true_iff]
  constructor
  · rintro ⟨h1, h2⟩
    by_cases hk : okS x
    · exact hk
    · rcases okS_no hk with z | z
      · exact absurd z (Int32.not_lt.mpr h1)
      · exact absurd h2 z
  · rintro ⟨k, h1, rfl⟩
    exact ⟨Int32.not_lt.mp (dn_ok k h1).1, (dn_ok k h1).2⟩
/-- a Bool that says whether a proposition holds -/
noncomputable def pB (P : Prop) : Bool := @decide P (Classical.propDecidable P)
theorem pB_t {P : Prop} (h : P) : pB P = true := @decide_eq_true P (Classical.propDecidable P) h
theorem pB_f {P : Prop} (h : ¬ P) : pB P = false := @decide_eq_false P (Classical.propDecidable P) h
theorem pB_iff {P : Prop} : pB P = true ↔ P := @decide_eq_true_iff P (Classical.propDecidable P)
theorem pB_of {P : Prop} {b : Bool} (h : b = true ↔ P) : b = pB P := by
  by_cases hp : P
  · rw [pB_t hp]; exact h.mpr hp
  · rw [pB_f hp]
    cases b with
    | false => rfl
    | true => exact absurd (h.mp rfl) hp

set_option maxHeartbeats 4000000 in
set_option maxRecDepth 100000 in
theorem r_isN (G : fm_G) (M : fm_M) (v : Int32) : fm_Ct G yX6_isNonterminal cX6_isNonterminal 1 (some .boolean) 1 22 0 0 [.int v] M (fun r M1 => M1 = M ∧ r = some (.int (bI (pB (okN v))))) := by
  refine fm_head (by decide) (Nat.le_of_ble_eq_true rfl) rfl (fun X C N0 rt => ?_)
  refine g_iload_n C dX6_isNonterminal_0 rfl ?_
  refine g_iconst C dX6_isNonterminal_1 (v := nI 0) rfl ?_
  refine g_iconst C dX6_isNonterminal_2 (v := nI 4) rfl ?_
  refine g_callS C dX6_isNonterminal_3 cw_X6_45 (r_in G M v (nI 0) (nI 4)) rfl rfl (Nat.le_of_ble_eq_true rfl) (by decide) (by decide) (by decide) (by decide) (fun r M1 hq => ?_)
  obtain ⟨rfl, rfl⟩ := hq
  rw [pB_of okN_b]
  exact rt (some (.int _)) _ _ _ _ _ (fm_retZ (bI_01 _) dX6_isNonterminal_6) ⟨rfl, rfl⟩ (Nat.le_refl _) (Nat.le_refl _)

def thq (a b c : Bool) : Nat := if a then 1 else if b then 2 else if c then 3 else 0

set_option maxHeartbeats 4000000 in
set_option maxRecDepth 100000 in
theorem r_refuse (G : fm_G) (rd : Nat → Nat) (S : Rs) (M : fm_M) (Pi : RPic G rd S M) (a b c : Bool) : fm_Ct G yX6_refuse cX6_refuse 4 (some .boolean) 0 0 0 0 [.ref (rd 0), .int (bI a), .int (bI b), .int (bI c)] M (fun r M1 => r = some (.int (bI (a || (b || c)))) ∧ ∃ S', RPic G rd S' M1 ∧ RFr rd M M1 ∧ rsI S S' 0 (nI (thq a b c))) := by
  have fin : ∀ (X : fm_X), GC G X RX6 cX6_refuse 4 0 0 0 0 → (∀ (v : Option Value) (M1 : fm_M) (k n' pc : Nat) (ls : List (Nat × Value)), fm_ret cX6_refuse pc (some .boolean) v → (v = some (.int (bI (a || (b || c)))) ∧ ∃ S', RPic G rd S' M1 ∧ RFr rd M M1 ∧ rsI S S' 0 (nI (thq a b c))) → k ≤ 0 → n' ≤ 0 → GW G X 4 M1 k n' pc ls v.toList) → ∀ ls, fm_lk ls 0 = some (.ref (rd 0)) → GW G X 4 M 0 0 26 ls [.int (nI (thq a b c)), .ref (rd 0)] := by
    intro X C rt ls hls
    refine g_putf C fl_X6_42 rfl dX6_refuse_26 Pi.ob rfl rfl (Nat.le_of_ble_eq_true rfl) ?_
    refine g_abs (fun M' => ∃ S1, RPic G rd S1 M' ∧ RFr rd M M' ∧ rsI S S1 0 (nI (thq a b c))) ⟨_, Pi.sc 0 _ rfl, RFr.rf.st (k := 0) (by decide), rfl, rfl⟩ (fun M1 ⟨S1, P1, F1, A1⟩ => ?_)
    refine g_aload_n C dX6_refuse_29 hls ?_
    refine g_getf C fl_X6_42 dX6_refuse_30 P1.ob rfl ?_
    rw [A1.at]
    by_cases hz : (a || (b || c)) = true
    · have hq : 0 < thq a b c := by
        unfold thq
        cases a <;> cases b <;> cases c <;> simp at hz ⊢
      have hq2 : thq a b c < 4 := by unfold thq; cases a <;> cases b <;> cases c <;> decide
      rw [hz] at rt
      refine g_if_le C dX6_refuse_33 (tgt := 40) (by decide) (fun hb => absurd hb (nI_nle hq (by omega))) (fun hb => ?_)
      refine g_iconst C dX6_refuse_36 (v := nI 1) rfl ?_
      refine g_goto C dX6_refuse_37 (tgt := 41) (by decide) ?_
      exact rt (some (.int (bI true))) M1 _ _ _ _ (fm_retZ (bI_01 true) dX6_refuse_41) ⟨rfl, S1, P1, F1, A1⟩ (Nat.le_refl _) (Nat.le_refl _)
    · have hz' := Bool.not_eq_true _ ▸ hz
      have hq : thq a b c = 0 := by
        unfold thq
        cases a <;> cases b <;> cases c <;> simp at hz ⊢
      rw [hz'] at rt
      rw [hq] at rt A1 ⊢
      refine g_if_le C dX6_refuse_33 (tgt := 40) (by decide) (fun hb => ?_) (fun hb => absurd (by decide) hb)
      refine g_iconst C dX6_refuse_40 (v := nI 0) rfl ?_
      exact rt (some (.int (bI false))) M1 _ _ _ _ (fm_retZ (bI_01 false) dX6_refuse_41) ⟨rfl, S1, P1, F1, A1⟩ (Nat.le_refl _) (Nat.le_refl _)
  refine fm_head (by decide) (Nat.le_of_ble_eq_true rfl) rfl (fun X C N0 rt => ?_)
  refine g_aload_n C dX6_refuse_0 rfl ?_
  refine g_iload_n C dX6_refuse_1 rfl ?_
  cases a with
  | true =>
    refine g_if_eq C dX6_refuse_2 (tgt := 9) (by decide) (fun hb => absurd hb (by decide)) (fun hb => ?_)
    refine g_iconst C dX6_refuse_5 (v := nI 1) rfl ?_
    refine g_goto C dX6_refuse_6 (tgt := 26) (by decide) ?_
    exact fin X C rt _ rfl
  | false =>
    refine g_if_eq C dX6_refuse_2 (tgt := 9) (by decide) (fun hb => ?_) (fun hb => absurd (by decide) hb)
    refine g_iload_n C dX6_refuse_9 rfl ?_
    cases b with
    | true =>
      refine g_if_eq C dX6_refuse_10 (tgt := 17) (by decide) (fun hb => absurd hb (by decide)) (fun hb => ?_)
      refine g_iconst C dX6_refuse_13 (v := nI 2) rfl ?_
      refine g_goto C dX6_refuse_14 (tgt := 26) (by decide) ?_
      exact fin X C rt _ rfl
    | false =>
      refine g_if_eq C dX6_refuse_10 (tgt := 17) (by decide) (fun hb => ?_) (fun hb => absurd (by decide) hb)
      refine g_iload_n C dX6_refuse_17 rfl ?_
      cases c with
      | true =>
        refine g_if_eq C dX6_refuse_18 (tgt := 25) (by decide) (fun hb => absurd hb (by decide)) (fun hb => ?_)
        refine g_iconst C dX6_refuse_21 (v := nI 3) rfl ?_
        refine g_goto C dX6_refuse_22 (tgt := 26) (by decide) ?_
        exact fin X C rt _ rfl
      | false =>
        refine g_if_eq C dX6_refuse_18 (tgt := 25) (by decide) (fun hb => ?_) (fun hb => absurd (by decide) hb)
        refine g_iconst C dX6_refuse_25 (v := nI 0) rfl ?_
        exact fin X C rt _ rfl

set_option maxHeartbeats 4000000 in
set_option maxRecDepth 100000 in
theorem r_thrown (G : fm_G) (rd : Nat → Nat) (S : Rs) (M : fm_M) (Pi : RPic G rd S M) : fm_Ct G yX6_thrown cX6_thrown 1 (some .int) 0 0 0 0 [.ref (rd 0)] M (fun r M1 => r = some (.int (S.2 0)) ∧ M1 = M) := by
  refine fm_head (by decide) (Nat.le_of_ble_eq_true rfl) rfl (fun X C N0 rt => ?_)
  refine g_aload_n C dX6_thrown_0 rfl ?_
  refine g_getf C fl_X6_42 dX6_thrown_1 Pi.ob rfl ?_
  exact rt (some (.int _)) _ _ _ _ _ (fm_retI dX6_thrown_4) ⟨rfl, rfl⟩ (Nat.le_refl _) (Nat.le_refl _)

set_option maxHeartbeats 4000000 in
set_option maxRecDepth 100000 in
theorem r_sum (G : fm_G) (M : fm_M) (x y : Nat) (hx : x < 512) (hy : y < 512) : fm_Ct G yX6_sum cX6_sum 5 (some .int) 0 0 0 0 [.int (nI x), .int (nI y)] M (fun r M1 => M1 = M ∧ r = some (.int (if okc x y = true then nI (x + y) else -1))) := by
  have no : ∀ (X : fm_X), GC G X RX6 cX6_sum 5 0 0 0 0 → ¬ okc x y = true → (∀ (v : Option Value) (M1 : fm_M) (k n' pc : Nat) (ls : List (Nat × Value)), fm_ret cX6_sum pc (some .int) v → (M1 = M ∧ v = some (.int (if okc x y = true then nI (x + y) else -1))) → k ≤ 0 → n' ≤ 0 → GW G X 5 M1 k n' pc ls v.toList) → ∀ ls, GW G X 5 M 0 0 56 ls [] := by
    intro X C hn rt ls
    rw [if_neg hn] at rt
    refine g_iconst C dX6_sum_56 (v := -1) rfl ?_
    refine g_goto C dX6_sum_57 (tgt := 72) (by decide) ?_
    exact rt (some (.int _)) M _ _ _ _ (fm_retI dX6_sum_72) ⟨rfl, rfl⟩ (Nat.le_refl _) (Nat.le_refl _)
  refine fm_head (by decide) (Nat.le_of_ble_eq_true rfl) rfl (fun X C N0 rt => ?_)
  refine g_iload_n C dX6_sum_0 rfl ?_
  refine g_bipush C dX6_sum_1 (v := nI 8) rfl ?_
  refine g_irem C dX6_sum_3 (by decide) ?_
  refine g_topI (pk_rem (a := x) (d := 8) (by omega) (by decide) (by decide)) ?_
  refine g_iload_n C dX6_sum_4 rfl ?_
  refine g_bipush C dX6_sum_5 (v := nI 8) rfl ?_
  refine g_irem C dX6_sum_7 (by decide) ?_
  refine g_topI (pk_rem (a := y) (d := 8) (by omega) (by decide) (by decide)) ?_
  refine g_iadd C dX6_sum_8 ?_
  refine g_topI (nI_add _ _) ?_
  refine g_istore_n C dX6_sum_9 (by decide) ?_
  refine g_iload_n C dX6_sum_10 rfl ?_
  refine g_bipush C dX6_sum_11 (v := nI 8) rfl ?_
  refine g_idiv C dX6_sum_13 (by decide) ?_
  refine g_topI (pk_div (a := x) (d := 8) (by omega) (by decide) (by decide)) ?_
  refine g_bipush C dX6_sum_14 (v := nI 8) rfl ?_
  refine g_irem C dX6_sum_16 (by decide) ?_
  refine g_topI (pk_rem (a := x / 8) (d := 8) (by omega) (by decide) (by decide)) ?_
  refine g_iload_n C dX6_sum_17 rfl ?_
  refine g_bipush C dX6_sum_18 (v := nI 8) rfl ?_
  refine g_idiv C dX6_sum_20 (by decide) ?_
  refine g_topI (pk_div (a := y) (d := 8) (by omega) (by decide) (by decide)) ?_
  refine g_bipush C dX6_sum_21 (v := nI 8) rfl ?_
  refine g_irem C dX6_sum_23 (by decide) ?_
  refine g_topI (pk_rem (a := y / 8) (d := 8) (by omega) (by decide) (by decide)) ?_
  refine g_iadd C dX6_sum_24 ?_
  refine g_topI (nI_add _ _) ?_
  refine g_istore_n C dX6_sum_25 (by decide) ?_
  refine g_iload_n C dX6_sum_26 rfl ?_
  refine g_bipush C dX6_sum_27 (v := nI 64) rfl ?_
  refine g_idiv C dX6_sum_29 (by decide) ?_
  refine g_topI (pk_div (a := x) (d := 64) (by omega) (by decide) (by decide)) ?_
  refine g_iload_n C dX6_sum_30 rfl ?_
  refine g_bipush C dX6_sum_31 (v := nI 64) rfl ?_
  refine g_idiv C dX6_sum_33 (by decide) ?_
  refine g_topI (pk_div (a := y) (d := 64) (by omega) (by decide) (by decide)) ?_
  refine g_iadd C dX6_sum_34 ?_
  refine g_topI (nI_add _ _) ?_
  refine g_istore C dX6_sum_35 (by decide) ?_
  refine g_iload_n C dX6_sum_37 rfl ?_
  refine g_bipush C dX6_sum_38 (v := nI 7) rfl ?_
  refine g_icmp_gtN C dX6_sum_40 (tgt := 56) (by decide) (by omega) (by decide) (fun hb => no X C (fun z => by have := okc_iff.mp z; omega) rt _) (fun hb => ?_)
  refine g_iload_n C dX6_sum_43 rfl ?_
  refine g_bipush C dX6_sum_44 (v := nI 7) rfl ?_
  refine g_icmp_gtN C dX6_sum_46 (tgt := 56) (by decide) (by omega) (by decide) (fun h2 => no X C (fun z => by have := okc_iff.mp z; omega) rt _) (fun h2 => ?_)
  refine g_iload C dX6_sum_49 rfl ?_
  refine g_bipush C dX6_sum_51 (v := nI 7) rfl ?_
  refine g_icmp_leN C dX6_sum_53 (tgt := 60) (by decide) (by omega) (by decide) (fun h3 => ?_) (fun h3 => no X C (fun z => by have := okc_iff.mp z; omega) rt _)
  rw [if_pos (okc_iff.mpr ⟨by omega, by omega, by omega⟩)] at rt
  refine g_iload_n C dX6_sum_60 rfl ?_
  refine g_bipush C dX6_sum_61 (v := nI 8) rfl ?_
  refine g_iload_n C dX6_sum_63 rfl ?_
  refine g_imul C dX6_sum_64 ?_
  refine g_topI (pk_mul 8 _) ?_
  refine g_iadd C dX6_sum_65 ?_
  refine g_topI (nI_add _ _) ?_
  refine g_bipush C dX6_sum_66 (v := nI 64) rfl ?_
  refine g_iload C dX6_sum_68 rfl ?_
  refine g_imul C dX6_sum_70 ?_
  refine g_topI (pk_mul 64 _) ?_
  refine g_iadd C dX6_sum_71 ?_
  refine g_topI (nI_add _ _) ?_
  refine g_topI (show _ = nI (x + y) by congr 1; omega) ?_
  exact rt (some (.int _)) M _ _ _ _ (fm_retI dX6_sum_72) ⟨rfl, rfl⟩ (Nat.le_refl _) (Nat.le_refl _)

/-- digit by digit at most -/
def dle (y x : Nat) : Prop := y % 8 ≤ x % 8 ∧ y / 8 % 8 ≤ x / 8 % 8 ∧ y / 64 ≤ x / 64

set_option maxHeartbeats 4000000 in
set_option maxRecDepth 100000 in
theorem r_less (G : fm_G) (M : fm_M) (x y : Nat) (hx : x < 512) (hy : y < 512) : fm_Ct G yX6_less cX6_less 5 (some .int) 0 0 0 0 [.int (nI x), .int (nI y)] M (fun r M1 => M1 = M ∧ r = some (.int (if pB (dle y x) = true then nI (x - y) else -1))) := by
  have no : ∀ (X : fm_X), GC G X RX6 cX6_less 5 0 0 0 0 → ¬ dle y x → (∀ (v : Option Value) (M1 : fm_M) (k n' pc : Nat) (ls : List (Nat × Value)), fm_ret cX6_less pc (some .int) v → (M1 = M ∧ v = some (.int (if pB (dle y x) = true then nI (x - y) else -1))) → k ≤ 0 → n' ≤ 0 → GW G X 5 M1 k n' pc ls v.toList) → ∀ ls, GW G X 5 M 0 0 50 ls [] := by
    intro X C hn rt ls
    rw [pB_f hn, if_neg Bool.false_ne_true] at rt
    refine g_iconst C dX6_less_50 (v := -1) rfl ?_
    refine g_goto C dX6_less_51 (tgt := 66) (by decide) ?_
    exact rt (some (.int _)) M _ _ _ _ (fm_retI dX6_less_66) ⟨rfl, rfl⟩ (Nat.le_refl _) (Nat.le_refl _)
  refine fm_head (by decide) (Nat.le_of_ble_eq_true rfl) rfl (fun X C N0 rt => ?_)
  refine g_iload_n C dX6_less_0 rfl ?_
  refine g_bipush C dX6_less_1 (v := nI 8) rfl ?_
  refine g_irem C dX6_less_3 (by decide) ?_
  refine g_topI (pk_rem (a := x) (d := 8) (by omega) (by decide) (by decide)) ?_
  refine g_iload_n C dX6_less_4 rfl ?_
  refine g_bipush C dX6_less_5 (v := nI 8) rfl ?_
  refine g_irem C dX6_less_7 (by decide) ?_
  refine g_topI (pk_rem (a := y) (d := 8) (by omega) (by decide) (by decide)) ?_
  refine g_isub C dX6_less_8 ?_
  refine g_istore_n C dX6_less_9 (by decide) ?_
  refine g_iload_n C dX6_less_10 rfl ?_
  refine g_bipush C dX6_less_11 (v := nI 8) rfl ?_
  refine g_idiv C dX6_less_13 (by decide) ?_
  refine g_topI (pk_div (a := x) (d := 8) (by omega) (by decide) (by decide)) ?_
  refine g_bipush C dX6_less_14 (v := nI 8) rfl ?_
  refine g_irem C dX6_less_16 (by decide) ?_
  refine g_topI (pk_rem (a := x / 8) (d := 8) (by omega) (by decide) (by decide)) ?_
  refine g_iload_n C dX6_less_17 rfl ?_
  refine g_bipush C dX6_less_18 (v := nI 8) rfl ?_
  refine g_idiv C dX6_less_20 (by decide) ?_
  refine g_topI (pk_div (a := y) (d := 8) (by omega) (by decide) (by decide)) ?_
  refine g_bipush C dX6_less_21 (v := nI 8) rfl ?_
  refine g_irem C dX6_less_23 (by decide) ?_
  refine g_topI (pk_rem (a := y / 8) (d := 8) (by omega) (by decide) (by decide)) ?_
  refine g_isub C dX6_less_24 ?_
  refine g_istore_n C dX6_less_25 (by decide) ?_
  refine g_iload_n C dX6_less_26 rfl ?_
  refine g_bipush C dX6_less_27 (v := nI 64) rfl ?_
  refine g_idiv C dX6_less_29 (by decide) ?_
  refine g_topI (pk_div (a := x) (d := 64) (by omega) (by decide) (by decide)) ?_
  refine g_iload_n C dX6_less_30 rfl ?_
  refine g_bipush C dX6_less_31 (v := nI 64) rfl ?_
  refine g_idiv C dX6_less_33 (by decide) ?_
  refine g_topI (pk_div (a := y) (d := 64) (by omega) (by decide) (by decide)) ?_
  refine g_isub C dX6_less_34 ?_
  refine g_istore C dX6_less_35 (by decide) ?_
  refine g_iload_n C dX6_less_37 rfl ?_
  by_cases h1 : y % 8 ≤ x % 8
  rotate_left
  · exact g_if_lt C dX6_less_38 (tgt := 50) (by decide) (fun hb => no X C (fun z => h1 z.1) rt _) (fun hb => absurd (pk_sneg (by omega) (by omega)) hb)
  refine g_if_lt C dX6_less_38 (tgt := 50) (by decide) (fun hb => absurd hb (by rw [pk_sub h1]; exact nI_pos (by omega))) (fun hb => ?_)
  refine g_iload_n C dX6_less_41 rfl ?_
  by_cases h2 : y / 8 % 8 ≤ x / 8 % 8
  rotate_left
  · exact g_if_lt C dX6_less_42 (tgt := 50) (by decide) (fun hb => no X C (fun z => h2 z.2.1) rt _) (fun hb => absurd (pk_sneg (by omega) (by omega)) hb)
  refine g_if_lt C dX6_less_42 (tgt := 50) (by decide) (fun hb => absurd hb (by rw [pk_sub h2]; exact nI_pos (by omega))) (fun hb => ?_)
  refine g_iload C dX6_less_45 rfl ?_
  by_cases h3 : y / 64 ≤ x / 64
  rotate_left
  · exact g_if_ge C dX6_less_47 (tgt := 54) (by decide) (fun hb => absurd (pk_sneg (by omega) (by omega)) (Int32.not_lt.mpr hb)) (fun hb => no X C (fun z => h3 z.2.2) rt _)
  refine g_if_ge C dX6_less_47 (tgt := 54) (by decide) (fun hb => ?_) (fun hb => absurd (by rw [pk_sub h3]; exact nI_pos' (by omega)) hb)
  rw [pB_t (show dle y x from ⟨h1, h2, h3⟩), if_pos rfl] at rt
  rw [pk_sub h1, pk_sub h2, pk_sub h3]
  refine g_iload_n C dX6_less_54 rfl ?_
  refine g_bipush C dX6_less_55 (v := nI 8) rfl ?_
  refine g_iload_n C dX6_less_57 rfl ?_
  refine g_imul C dX6_less_58 ?_
  refine g_topI (pk_mul 8 _) ?_
  refine g_iadd C dX6_less_59 ?_
  refine g_topI (nI_add _ _) ?_
  refine g_bipush C dX6_less_60 (v := nI 64) rfl ?_
  refine g_iload C dX6_less_62 rfl ?_
  refine g_imul C dX6_less_64 ?_
  refine g_topI (pk_mul 64 _) ?_
  refine g_iadd C dX6_less_65 ?_
  refine g_topI (nI_add _ _) ?_
  refine g_topI (show _ = nI (x - y) by congr 1; omega) ?_
  exact rt (some (.int _)) M _ _ _ _ (fm_retI dX6_less_66) ⟨rfl, rfl⟩ (Nat.le_refl _) (Nat.le_refl _)

