/-! THE REFERENCE's sums, and the ends of rules -/
def Sq (P : Nat → Nat → Prop) (f : Nat → Nat) : Nat → Nat → Prop
  | 0 => fun v => v = 0
  | m + 1 => fun v => (isN (f (3 - m)) = true ∧ sumP (P (f (3 - m) - 1)) (Sq P f m) v) ∨ (isN (f (3 - m)) = false ∧ Sq P f m v)
theorem okc_as {x w l : Nat} (h1 : okc w l = true) (h2 : okc x (w + l) = true) : okc x w = true ∧ okc (x + w) l = true := by
  have d1 := okc_d h1
  have i1 := okc_iff.mp h1
  have i2 := okc_iff.mp h2
  rw [d1.1, d1.2.1, d1.2.2] at i2
  have h3 : okc x w = true := okc_iff.mpr ⟨by omega, by omega, by omega⟩
  have d3 := okc_d h3
  refine ⟨h3, okc_iff.mpr ?_⟩
  rw [d3.1, d3.2.1, d3.2.2]
  exact ⟨by omega, by omega, by omega⟩
theorem okc_sa {x w l : Nat} (h1 : okc x w = true) (h2 : okc (x + w) l = true) : okc w l = true ∧ okc x (w + l) = true := by
  have d1 := okc_d h1
  have i1 := okc_iff.mp h1
  have i2 := okc_iff.mp h2
  rw [d1.1, d1.2.1, d1.2.2] at i2
  have h3 : okc w l = true := okc_iff.mpr ⟨by omega, by omega, by omega⟩
  have d3 := okc_d h3
  refine ⟨h3, okc_iff.mpr ?_⟩
  rw [d3.1, d3.2.1, d3.2.2]
  exact ⟨by omega, by omega, by omega⟩
theorem okc_0 {l : Nat} (h : l < 512) : okc 0 l = true := okc_iff.mpr ⟨by omega, by omega, by omega⟩
/-- an end of a rule is a sum and the rule's letters -/
theorem EHq {a : Ab} (ha : AbOk a) {r : Nat} (hr : r < a.nR) (h : Nat) : ∀ m, m ≤ 4 → ∀ c, EH (gO a) r (nz (a.sy r) (4 - m)) (h + 1) c ↔ ∃ w, Sq (Hh (gO a) h) (a.sy r) m w ∧ okc w (lcf (a.sy r) 4) = true ∧ c = w + lcf (a.sy r) 4 := by
  have hlc : lcf (a.sy r) 4 < 512 := ((gO_ok ha).2 r hr).2.2.1
  intro m
  induction m with
  | zero =>
    intro _ c
    have e := EH_last (gO a) r h c
    have e2 : (gO a).sz r = nz (a.sy r) 4 := rfl
    rw [e2] at e
    rw [e]
    constructor
    · intro z
      exact ⟨0, rfl, okc_0 hlc, by rw [Nat.zero_add]; exact z⟩
    · rintro ⟨w, h1, _, h3⟩
      have h1 : w = 0 := h1
      rw [h3, h1, Nat.zero_add]; rfl
  | succ m ih =>
    intro hm c
    have ihc := ih (by omega)
    have ep : 4 - (m + 1) = 3 - m := by omega
    have ep2 : 4 - m = 3 - m + 1 := by omega
    rw [ep]
    rw [ep2] at ihc
    cases hN : isN (a.sy r (3 - m)) with
    | false =>
      have e1 : nz (a.sy r) (3 - m + 1) = nz (a.sy r) (3 - m) := nz_no (by rw [hN]; exact Bool.false_ne_true)
      rw [e1] at ihc
      rw [ihc c]
      constructor
      · rintro ⟨w, h1, h2⟩
        exact ⟨w, Or.inr ⟨hN, h1⟩, h2⟩
      · rintro ⟨w, h1 | h1, h2⟩
        · rw [hN] at h1; exact absurd h1.1 Bool.false_ne_true
        · exact ⟨w, h1.2, h2⟩
    | true =>
      obtain ⟨e1, e2⟩ := ptf_at (q := 4) (show 3 - m < 4 by omega) hN
      have hi : nz (a.sy r) (3 - m) < (gO a).sz r := by
        have := nz_mono (a.sy r) (show 3 - m + 1 ≤ 4 by omega)
        show nz (a.sy r) (3 - m) < nz (a.sy r) 4
        omega
      rw [EH_step (gO a) r _ h c hi]
      have e3 : (gO a).pt r (nz (a.sy r) (3 - m)) = a.sy r (3 - m) - 1 := e2
      rw [e3, ← e1]
      constructor
      · rintro ⟨x, h1, h2, h3, h4⟩
        obtain ⟨w, w1, w2, w3⟩ := (ihc _).mp h4
        rw [w3] at h3
        obtain ⟨q1, q2⟩ := okc_as w2 h3
        refine ⟨x + w, Or.inl ⟨hN, x, by omega, h2, ?_, ?_⟩, q2, by omega⟩
        · rw [show x + w - x = w by omega]; exact q1
        · rw [show x + w - x = w by omega]; exact w1
      · rintro ⟨u, h1 | h1, h2, h3⟩
        · obtain ⟨-, x, x1, x2, x3, x4⟩ := h1
          obtain ⟨q1, q2⟩ := okc_sa (x := x) (w := u - x) (l := lcf (a.sy r) 4) x3 (by rw [show x + (u - x) = u by omega]; exact h2)
          refine ⟨x, by omega, x2, ?_, ?_⟩
          · rw [show c - x = (u - x) + lcf (a.sy r) 4 by omega]; exact q2
          · exact (ihc _).mpr ⟨u - x, x4, q1, by omega⟩
        · rw [hN] at h1; exact absurd h1.1.symm Bool.false_ne_true
theorem Sq_lt {P : Nat → Nat → Prop} {f : Nat → Nat} : ∀ m v, Sq P f m v → v < 512 := by
  intro m
  induction m with
  | zero => intro v h; have h : v = 0 := h; omega
  | succ m ih =>
    rintro v (⟨_, h⟩ | ⟨_, h⟩)
    · exact sumP_lt h
    · exact ih v h
/-- rows from p on are reckoned -/
def rwI (P : Nat → Nat → Prop) (f : Nat → Nat) (m : Nat) (F : Nat → Int32) : Prop := ∀ p, m ≤ p → p ≤ 4 → ∃ s, rowE F p s ∧ ∀ v, v < 512 → (s v = true ↔ Sq P f (4 - p) v)
/-- of a row the first i places -/
def rowP (f : Nat → Int32) (p : Nat) (s : Nat → Bool) (i : Nat) : Prop := ∀ v, v < i → f (512 * p + v) = bI (s v)
theorem rowP_up {f : Nat → Int32} {p i : Nat} {s : Nat → Bool} (h : rowP f p s i) : rowP (upd f (512 * p + i) (bI (s i))) p s (i + 1) := by
  intro v hv
  by_cases he : v = i
  · subst he; rw [pk_us]
  · rw [pk_un (by omega)]; exact h v (by omega)

set_option maxHeartbeats 4000000 in
set_option maxRecDepth 100000 in
theorem l_rsA {G : fm_G} {rd : Nat → Nat} {S : Rs} {M : fm_M} {X : fm_X} {fr lo mc ms : Nat} {r : Nat} {bl : Int32} (C : GC G X RX6 cX6_reckonSums 7 (fr + 2) (lo + 48) mc ms) (kk : ∀ S' M1, RPic G rd S' M1 → RFr rd M M1 → eq5 S S' → rowP (S'.1 5) 4 (fun v => decide (v = 0)) 512 → GW G X 7 M1 0 0 34 [(0, .ref (rd 0)), (1, .int (nI r)), (2, .int bl)] []) : ∀ d i S1 M1, i + d = 512 → RPic G rd S1 M1 → RFr rd M M1 → eq5 S S1 → rowP (S1.1 5) 4 (fun v => decide (v = 0)) i → GW G X 7 M1 0 0 2 [(0, .ref (rd 0)), (1, .int (nI r)), (2, .int bl), (3, .int (nI i))] [] := by
  intro d
  induction d with
  | zero =>
    intro i S1 M1 hi P1 F1 E1 R1
    have e : i = 512 := by omega
    subst e
    refine g_iload_n C dX6_reckonSums_2 rfl ?_
    refine g_sipush C dX6_reckonSums_3 (v := nI 512) rfl ?_
    refine g_icmp_geN C dX6_reckonSums_6 (tgt := 34) (by decide) (by decide) (by decide) (fun hb => g_loc [0, 1, 2] rfl (kk S1 M1 P1 F1 E1 R1)) (fun hb => absurd hb (by omega))
  | succ d ih =>
    intro i S1 M1 hi P1 F1 E1 R1
    have fin : GW G X 7 M1 0 0 27 [(0, .ref (rd 0)), (1, .int (nI r)), (2, .int bl), (3, .int (nI i))] [.int (bI (decide (i = 0))), .int (nI (2048 + i)), .ref (rd 5)] := by
      refine g_zastN C dX6_reckonSums_27 P1.k5 (show 2048 + i < 2560 by omega) (by decide) ?_
      refine g_abs (fun M' => ∃ S2, RPic G rd S2 M' ∧ RFr rd M M' ∧ raI S1 S2 5 (upd (S1.1 5) (2048 + i) (bI (decide (i = 0))))) ⟨_, P1.ar (n := 2560) (by decide) (by decide) _ rfl, F1.st (k := 5) (by decide), rfl, rfl⟩ (fun M3 ⟨S3, P3, F3, A3⟩ => ?_)
      refine g_inc1 C dX6_reckonSums_28 rfl (by decide) ?_
      refine g_goto C dX6_reckonSums_31 (tgt := 2) (by decide) ?_
      refine ih (i + 1) S3 M3 (by omega) P3 F3 (E1.tr A3.e5) ?_
      rw [A3.at]
      exact rowP_up (p := 4) R1
    refine g_iload_n C dX6_reckonSums_2 rfl ?_
    refine g_sipush C dX6_reckonSums_3 (v := nI 512) rfl ?_
    refine g_icmp_geN C dX6_reckonSums_6 (tgt := 34) (by decide) (by omega) (by decide) (fun hb => absurd hb (by omega)) (fun hb => ?_)
    refine g_aload_n C dX6_reckonSums_9 rfl ?_
    refine g_getf C fl_X6_22 dX6_reckonSums_10 P1.ob rfl ?_
    refine g_sipush C dX6_reckonSums_13 (v := nI 2048) rfl ?_
    refine g_iload_n C dX6_reckonSums_16 rfl ?_
    refine g_iadd C dX6_reckonSums_17 ?_
    refine g_topI (nI_add _ _) ?_
    refine g_iload_n C dX6_reckonSums_18 rfl ?_
    refine g_if_ne C dX6_reckonSums_19 (tgt := 26) (by decide) (fun h0 => ?_) (fun h0 => ?_)
    · have hz : ¬ i = 0 := fun z => h0 (by rw [z]; decide)
      rw [decide_eq_false hz] at fin
      refine g_iconst C dX6_reckonSums_26 (v := nI 0) rfl ?_
      exact fin
    · have hz : i = 0 := by
        by_cases z : i = 0
        · exact z
        · exact absurd h0 (nI_ne0 (by omega) (by omega))
      rw [decide_eq_true hz] at fin
      refine g_iconst C dX6_reckonSums_22 (v := nI 1) rfl ?_
      refine g_goto C dX6_reckonSums_23 (tgt := 27) (by decide) ?_
      exact fin

set_option maxHeartbeats 4000000 in
set_option maxRecDepth 100000 in
theorem l_rsC {G : fm_G} {rd : Nat → Nat} {S : Rs} {M : fm_M} {X : fm_X} {fr lo mc ms : Nat} {r p k : Nat} {b : Bool} {bl : Int32} {s : Nat → Bool} (C : GC G X RX6 cX6_reckonSums 7 (fr + 2) (lo + 48) mc ms) (hp : p < 4) (hs0 : rowE (S.1 5) (p + 1) s) (kk : ∀ S' M1, RPic G rd S' M1 → RFr rd M M1 → eq5 S S' → offR p (S.1 5) (S'.1 5) → rowP (S'.1 5) p (fun v => !b && s v) 512 → GW G X 7 M1 0 0 117 [(0, .ref (rd 0)), (1, .int (nI r)), (2, .int bl), (3, .int (nI p)), (4, .int (dn k)), (5, .int (bI b)), (6, .int (nI 512))] []) : ∀ d i S1 M1, i + d = 512 → RPic G rd S1 M1 → RFr rd M M1 → eq5 S S1 → offR p (S.1 5) (S1.1 5) → rowP (S1.1 5) p (fun v => !b && s v) i → GW G X 7 M1 0 0 62 [(0, .ref (rd 0)), (1, .int (nI r)), (2, .int bl), (3, .int (nI p)), (4, .int (dn k)), (5, .int (bI b)), (6, .int (nI i))] [] := by
  intro d
  induction d with
  | zero =>
    intro i S1 M1 hi P1 F1 E1 O1 R1
    have e : i = 512 := by omega
    subst e
    refine g_iload C dX6_reckonSums_62 rfl ?_
    refine g_sipush C dX6_reckonSums_64 (v := nI 512) rfl ?_
    refine g_icmp_geN C dX6_reckonSums_67 (tgt := 117) (by decide) (by decide) (by decide) (fun hb => kk S1 M1 P1 F1 E1 O1 R1) (fun hb => absurd hb (by omega))
  | succ d ih =>
    intro i S1 M1 hi P1 F1 E1 O1 R1
    have hsv : S1.1 5 (512 * (p + 1) + i) = bI (s i) := (O1.row (show p + 1 ≠ p by omega) hs0) i (by omega)
    have fin : GW G X 7 M1 0 0 110 [(0, .ref (rd 0)), (1, .int (nI r)), (2, .int bl), (3, .int (nI p)), (4, .int (dn k)), (5, .int (bI b)), (6, .int (nI i))] [.int (bI (!b && s i)), .int (nI (512 * p + i)), .ref (rd 5)] := by
      refine g_zastN C dX6_reckonSums_110 P1.k5 (show 512 * p + i < 2560 by omega) (by decide) ?_
      refine g_abs (fun M' => ∃ S2, RPic G rd S2 M' ∧ RFr rd M M' ∧ raI S1 S2 5 (upd (S1.1 5) (512 * p + i) (bI (!b && s i)))) ⟨_, P1.ar (n := 2560) (by decide) (by decide) _ rfl, F1.st (k := 5) (by decide), rfl, rfl⟩ (fun M3 ⟨S3, P3, F3, A3⟩ => ?_)
      refine g_inc1 C dX6_reckonSums_111 rfl (by decide) ?_
      refine g_goto C dX6_reckonSums_114 (tgt := 62) (by decide) ?_
      refine ih (i + 1) S3 M3 (by omega) P3 F3 (E1.tr A3.e5) ?_ ?_
      · rw [A3.at]; exact O1.tr (offR_up (by omega))
      · rw [A3.at]; exact rowP_up (s := fun v => !b && s v) R1
    refine g_iload C dX6_reckonSums_62 rfl ?_
    refine g_sipush C dX6_reckonSums_64 (v := nI 512) rfl ?_
    refine g_icmp_geN C dX6_reckonSums_67 (tgt := 117) (by decide) (by omega) (by decide) (fun hb => absurd hb (by omega)) (fun hb => ?_)
    refine g_aload_n C dX6_reckonSums_70 rfl ?_
    refine g_getf C fl_X6_22 dX6_reckonSums_71 P1.ob rfl ?_
    refine g_sipush C dX6_reckonSums_74 (v := nI 512) rfl ?_
    refine g_iload_n C dX6_reckonSums_77 rfl ?_
    refine g_imul C dX6_reckonSums_78 ?_
    refine g_topI (pk_mul 512 p) ?_
    refine g_iload C dX6_reckonSums_79 rfl ?_
    refine g_iadd C dX6_reckonSums_81 ?_
    refine g_topI (nI_add _ _) ?_
    refine g_iload C dX6_reckonSums_82 rfl ?_
    refine g_if_ne C dX6_reckonSums_84 (tgt := 109) (by decide) (fun h0 => ?_) (fun h0 => ?_)
    · rw [bI_n0.mp h0] at fin
      refine g_iconst C dX6_reckonSums_109 (v := nI 0) rfl ?_
      rw [bI_n0.mp h0]
      exact fin
    · have hbf := bI_0.mp h0
      refine g_aload_n C dX6_reckonSums_87 rfl ?_
      refine g_getf C fl_X6_22 dX6_reckonSums_88 P1.ob rfl ?_
      refine g_sipush C dX6_reckonSums_91 (v := nI 512) rfl ?_
      refine g_iload_n C dX6_reckonSums_94 rfl ?_
      refine g_iconst C dX6_reckonSums_95 (v := nI 1) rfl ?_
      refine g_iadd C dX6_reckonSums_96 ?_
      refine g_topI (nI_add p 1) ?_
      refine g_imul C dX6_reckonSums_97 ?_
      refine g_topI (pk_mul 512 (p + 1)) ?_
      refine g_iload C dX6_reckonSums_98 rfl ?_
      refine g_iadd C dX6_reckonSums_100 ?_
      refine g_topI (nI_add _ _) ?_
      refine g_zaldN C dX6_reckonSums_101 P1.k5 (show 512 * (p + 1) + i < 2560 by omega) (by decide) ?_
      rw [hsv]
      cases hsi : s i with
      | false =>
        rw [hsi, Bool.and_false] at fin
        refine g_if_eq C dX6_reckonSums_102 (tgt := 109) (by decide) (fun h1 => ?_) (fun h1 => absurd (by decide) h1)
        refine g_iconst C dX6_reckonSums_109 (v := nI 0) rfl ?_
        exact fin
      | true =>
        rw [hsi, hbf] at fin
        refine g_if_eq C dX6_reckonSums_102 (tgt := 109) (by decide) (fun h1 => absurd h1 (by decide)) (fun h1 => ?_)
        rw [hbf]
        refine g_iconst C dX6_reckonSums_105 (v := nI 1) rfl ?_
        refine g_goto C dX6_reckonSums_106 (tgt := 110) (by decide) ?_
        exact fin

/-- what row p holds behind counts below c -/
def rqI (P : Nat → Prop) (s : Nat → Bool) (c : Nat) (d : Nat → Bool) : Prop := ∀ v, v < 512 → (d v = true ↔ ∃ x, x < c ∧ P x ∧ x ≤ v ∧ okc x (v - x) = true ∧ s (v - x) = true)
theorem rqI_skip {P : Nat → Prop} {s d : Nat → Bool} {c : Nat} (h : rqI P s c d) (hn : ¬ P c) : rqI P s (c + 1) d := by
  intro v hv
  rw [h v hv]
  constructor
  · rintro ⟨x, h1, h2⟩; exact ⟨x, by omega, h2⟩
  · rintro ⟨x, h1, h2, h3⟩
    refine ⟨x, ?_, h2, h3⟩
    have : x ≠ c := fun e => hn (by rw [← e]; exact h2)
    omega
theorem rqI_hit {P : Nat → Prop} {s d d' : Nat → Bool} {c : Nat} (h : rqI P s c d) (hP : P c) (hs : shI d s c 512 d') : rqI P s (c + 1) d' := by
  intro v hv
  rw [hs v hv, h v hv]
  constructor
  · rintro (⟨x, h1, h2⟩ | ⟨u, h1, h2, h3, h4⟩)
    · exact ⟨x, by omega, h2⟩
    · refine ⟨c, Nat.lt_succ_self c, hP, by omega, ?_, ?_⟩
      · rw [h4, show u + c - c = u by omega, okc_comm]; exact h3
      · rw [h4, show u + c - c = u by omega]; exact h2
  · rintro ⟨x, h1, h2, h3, h4, h5⟩
    by_cases he : x = c
    · subst he
      refine Or.inr ⟨v - x, by omega, h5, ?_, by omega⟩
      rw [okc_comm]; exact h4
    · exact Or.inl ⟨x, by omega, h2, h3, h4, h5⟩

set_option maxHeartbeats 4000000 in
set_option maxRecDepth 100000 in
theorem l_rsD {G : fm_G} {rd : Nat → Nat} {S : Rs} {M : fm_M} {X : fm_X} {fr lo mc ms : Nat} {r p k : Nat} {bl : Int32} {P : Nat → Nat → Prop} {s : Nat → Bool} (C : GC G X RX6 cX6_reckonSums 7 (fr + 2) (lo + 48) mc ms) (hp : p < 4) (hk : k < 5) (hs0 : rowE (S.1 5) (p + 1) s) (hP : ∀ c, c < 512 → ((0 < S.1 4 (512 * k + c) ∧ S.1 4 (512 * k + c) < bl) ↔ P k c)) (kk : ∀ S' M1 d' ls, fm_sel ls [0, 1, 2, 3] = some [(0, .ref (rd 0)), (1, .int (nI r)), (2, .int bl), (3, .int (nI p))] → RPic G rd S' M1 → RFr rd M M1 → eq5 S S' → offR p (S.1 5) (S'.1 5) → rowE (S'.1 5) p d' → rqI (P k) s 512 d' → GW G X 7 M1 0 0 158 ls []) : ∀ d i S1 M1 d', i + d = 512 → RPic G rd S1 M1 → RFr rd M M1 → eq5 S S1 → offR p (S.1 5) (S1.1 5) → rowE (S1.1 5) p d' → rqI (P k) s i d' → GW G X 7 M1 0 0 120 [(0, .ref (rd 0)), (1, .int (nI r)), (2, .int bl), (3, .int (nI p)), (4, .int (nI k)), (5, .int (bI true)), (6, .int (nI i))] [] := by
  intro d
  induction d with
  | zero =>
    intro i S1 M1 d' hi P1 F1 E1 O1 R1 I1
    have e : i = 512 := by omega
    subst e
    refine g_iload C dX6_reckonSums_120 rfl ?_
    refine g_sipush C dX6_reckonSums_122 (v := nI 512) rfl ?_
    refine g_icmp_geN C dX6_reckonSums_125 (tgt := 158) (by decide) (by decide) (by decide) (fun hb => kk S1 M1 d' _ rfl P1 F1 E1 O1 R1 I1) (fun hb => absurd hb (by omega))
  | succ d ih =>
    intro i S1 M1 d' hi P1 F1 E1 O1 R1 I1
    have h4 : S1.1 4 = S.1 4 := E1.2 4 (by decide)
    refine g_iload C dX6_reckonSums_120 rfl ?_
    refine g_sipush C dX6_reckonSums_122 (v := nI 512) rfl ?_
    refine g_icmp_geN C dX6_reckonSums_125 (tgt := 158) (by decide) (by omega) (by decide) (fun hb => absurd hb (by omega)) (fun hb => ?_)
    refine g_iload C dX6_reckonSums_128 rfl ?_
    refine g_if_eq C dX6_reckonSums_130 (tgt := 158) (by decide) (fun h0 => absurd h0 (by decide)) (fun h0 => ?_)
    refine g_aload_n C dX6_reckonSums_133 rfl ?_
    refine g_iload C dX6_reckonSums_134 rfl ?_
    refine g_iload C dX6_reckonSums_136 rfl ?_
    refine g_iload_n C dX6_reckonSums_138 rfl ?_
    refine g_callV (ci := 6) C dX6_reckonSums_139 cw_X6_68 rfl (r_has G rd S1 M1 P1 k i bl hk (by omega)) P1.ob rfl rfl (Nat.le_of_ble_eq_true rfl) (by omega) (by omega) (by omega) (by omega) (fun v M2 hq => ?_)
    obtain ⟨rfl, rfl⟩ := hq
    have hPi := hP i (by omega)
    rw [h4]
    generalize hbb : (decide (0 < S.1 4 (512 * k + i)) && decide (S.1 4 (512 * k + i) < bl)) = bb
    have hbt : bb = true ↔ P k i := by rw [← hbb, Bool.and_eq_true, decide_eq_true_iff, decide_eq_true_iff]; exact hPi
    show GW G X 7 M2 0 0 142 _ [.int (bI bb)]
    refine g_if_eq C dX6_reckonSums_142 (tgt := 152) (by decide) (fun h1 => ?_) (fun h1 => ?_)
    · skip
      refine g_inc1 C dX6_reckonSums_152 rfl (by decide) ?_
      refine g_goto C dX6_reckonSums_155 (tgt := 120) (by decide) ?_
      exact ih (i + 1) S1 M2 d' (by omega) P1 F1 E1 O1 R1 (rqI_skip I1 (fun z => by rw [hbt.mpr z] at h1; exact absurd h1 (by decide)))
    · skip
      refine g_aload_n C dX6_reckonSums_145 rfl ?_
      refine g_iload_n C dX6_reckonSums_146 rfl ?_
      refine g_iload C dX6_reckonSums_147 rfl ?_
      refine g_callV (ci := 6) C dX6_reckonSums_149 cw_X6_71 rfl (r_shift G rd S1 M2 P1 p i d' s hp (by omega) (O1.row (by omega) hs0) R1) P1.ob rfl rfl (Nat.le_of_ble_eq_true rfl) (by omega) (by omega) (by omega) (by omega) (fun v M3 hq => ?_)
      obtain ⟨rfl, S3, d3, P3, F3, E3, O3, R3, I3⟩ := hq
      show GW G X 7 M3 0 0 152 _ []
      refine g_inc1 C dX6_reckonSums_152 rfl (by decide) ?_
      refine g_goto C dX6_reckonSums_155 (tgt := 120) (by decide) ?_
      exact ih (i + 1) S3 M3 d3 (by omega) P3 (F1.tr F3) (E1.tr E3) (O1.tr O3) R3 (rqI_hit I1 (hbt.mp (bI_n0.mp h1)) I3)

set_option maxHeartbeats 4000000 in
set_option maxRecDepth 100000 in
theorem l_rsB {G : fm_G} {rd : Nat → Nat} {S : Rs} {M : fm_M} {X : fm_X} {fr lo mc ms : Nat} {a : Ab} {r : Nat} {bl : Int32} {P : Nat → Nat → Prop} (C : GC G X RX6 cX6_reckonSums 7 (fr + 2) (lo + 48) mc ms) (ha : AbOk a) (hy : ryI a S) (hr : r < a.nR) (hP : ∀ n c, n < 5 → c < 512 → ((0 < S.1 4 (512 * n + c) ∧ S.1 4 (512 * n + c) < bl) ↔ P n c)) (kk : ∀ S' M1 ls, RPic G rd S' M1 → RFr rd M M1 → eq5 S S' → rwI P (a.sy r) 0 (S'.1 5) → GW G X 7 M1 0 0 164 ls []) : ∀ m S1 M1, m ≤ 4 → RPic G rd S1 M1 → RFr rd M M1 → eq5 S S1 → rwI P (a.sy r) m (S1.1 5) → GW G X 7 M1 0 0 36 [(0, .ref (rd 0)), (1, .int (nI r)), (2, .int bl), (3, .int (dn m))] [] := by
  have h10 := ha.1
  intro m
  induction m with
  | zero =>
    intro S1 M1 hm P1 F1 E1 I1
    refine g_iload_n C dX6_reckonSums_36 rfl ?_
    refine g_if_lt C dX6_reckonSums_37 (tgt := 164) (by decide) (fun hb => kk S1 M1 _ P1 F1 E1 I1) (fun hb => absurd (by decide) hb)
  | succ p ih =>
    intro S1 M1 hm P1 F1 E1 I1
    show GW G X 7 M1 0 0 36 [(0, .ref (rd 0)), (1, .int (nI r)), (2, .int bl), (3, .int (nI p))] []
    have hp : p < 4 := by omega
    have y1 := E1.ry hy
    have hs := (y1.2 r hr).2 p hp
    have h9 := (ha.2.1 r hr).2.1 p hp
    obtain ⟨s, hs0, hsq⟩ := I1 (p + 1) (Nat.le_refl _) (by omega)
    have em : 4 - p = 4 - (p + 1) + 1 := by omega
    have ep : 3 - (4 - (p + 1)) = p := by omega
    refine g_iload_n C dX6_reckonSums_36 rfl ?_
    refine g_if_lt C dX6_reckonSums_37 (tgt := 164) (by decide) (fun hb => absurd hb (nI_pos (by omega))) (fun hb => ?_)
    refine g_aload_n C dX6_reckonSums_40 rfl ?_
    refine g_getf C fl_X6_13 dX6_reckonSums_41 P1.ob rfl ?_
    refine g_iconst C dX6_reckonSums_44 (v := nI 4) rfl ?_
    refine g_iload_n C dX6_reckonSums_45 rfl ?_
    refine g_imul C dX6_reckonSums_46 ?_
    refine g_topI (pk_mul 4 r) ?_
    refine g_iload_n C dX6_reckonSums_47 rfl ?_
    refine g_iadd C dX6_reckonSums_48 ?_
    refine g_topI (nI_add _ _) ?_
    refine g_ialdN C dX6_reckonSums_49 P1.k2 (show 4 * r + p < 40 by omega) (by decide) ?_
    rw [hs]
    refine g_istore C dX6_reckonSums_50 (by decide) ?_
    refine g_iload C dX6_reckonSums_52 rfl ?_
    refine g_callS C dX6_reckonSums_54 cw_X6_49 (r_isN G M1 (dn (a.sy r p))) rfl rfl (Nat.le_of_ble_eq_true rfl) (by omega) (by omega) (by omega) (by omega) (fun v M2 hq => ?_)
    obtain ⟨rfl, rfl⟩ := hq
    rw [pN_dn h9]
    show GW G X 7 M2 0 0 57 _ [.int (bI (isN (a.sy r p)))]
    refine g_istore C dX6_reckonSums_57 (by decide) ?_
    refine g_iconst C dX6_reckonSums_59 (v := nI 0) rfl ?_
    refine g_istore C dX6_reckonSums_60 (by decide) ?_
    refine l_rsC (fr := fr) (lo := lo) (S := S1) (M := M2) C hp hs0 (fun S3 M3 P3 F3 E3 O3 R3 => ?_) 512 0 S1 M2 (by omega) P1 RFr.rf eq5.rf (fun _ _ => rfl) (fun v hv => absurd hv (Nat.not_lt_zero v))
    have keep : ∀ (F' : Nat → Int32) (d : Nat → Bool), offR p (S1.1 5) F' → rowE F' p d → (∀ v, v < 512 → (d v = true ↔ Sq P (a.sy r) (4 - p) v)) → rwI P (a.sy r) p F' := by
      intro F' d hO hR hd q h1 h2
      by_cases he : q = p
      · subst he; exact ⟨d, hR, hd⟩
      · obtain ⟨s', r1, r2⟩ := I1 q (by omega) h2
        exact ⟨s', hO.row he r1, r2⟩
    refine g_iconst C dX6_reckonSums_117 (v := nI 0) rfl ?_
    refine g_istore C dX6_reckonSums_118 (by decide) ?_
    cases hN : isN (a.sy r p) with
    | false =>
      rw [hN] at R3
      refine g_iload C dX6_reckonSums_120 rfl ?_
      refine g_sipush C dX6_reckonSums_122 (v := nI 512) rfl ?_
      refine g_icmp_geN C dX6_reckonSums_125 (tgt := 158) (by decide) (by decide) (by decide) (fun hb => absurd hb (by decide)) (fun hb => ?_)
      refine g_iload C dX6_reckonSums_128 rfl ?_
      refine g_if_eq C dX6_reckonSums_130 (tgt := 158) (by decide) (fun h0 => ?_) (fun h0 => absurd (by decide) h0)
      refine g_loc [0, 1, 2, 3] rfl ?_
      refine g_iinc C dX6_reckonSums_158 rfl (dn_m1 p) (by decide) ?_
      refine g_goto C dX6_reckonSums_161 (tgt := 36) (by decide) ?_
      refine ih S3 M3 (by omega) P3 (F1.tr F3) (E1.tr E3) (keep _ s O3 (fun v hv => R3 v hv) (fun v hv => ?_))
      rw [hsq v hv, em]
      show _ ↔ (isN (a.sy r (3 - (4 - (p + 1)))) = true ∧ _) ∨ (isN (a.sy r (3 - (4 - (p + 1)))) = false ∧ _)
      rw [ep, hN]
      exact ⟨fun z => Or.inr ⟨rfl, z⟩, fun z => z.elim (fun q => absurd q.1 Bool.false_ne_true) (fun q => q.2)⟩
    | true =>
      rw [hN] at R3
      obtain ⟨k, hk⟩ : ∃ k, a.sy r p = k + 1 := ⟨a.sy r p - 1, by have := isN_iff.mp hN; omega⟩
      have hk5 : k < 5 := by have := isN_iff.mp hN; omega
      rw [hk]
      show GW G X 7 M3 0 0 120 [(0, .ref (rd 0)), (1, .int (nI r)), (2, .int bl), (3, .int (nI p)), (4, .int (nI k)), (5, .int (bI true)), (6, .int (nI 0))] []
      refine l_rsD (fr := fr) (lo := lo) (S := S3) (M := M3) (P := P) C hp hk5 (O3.row (by omega) hs0) (fun c hc => ?_) (fun S4 M4 d4 ls hls P4 F4 E4 O4 R4 I4 => ?_) 512 0 S3 M3 (fun _ => false) (by omega) P3 RFr.rf eq5.rf (fun _ _ => rfl) (fun v hv => R3 v hv) (fun v hv => ⟨fun z => absurd z Bool.false_ne_true, fun ⟨x, z, _⟩ => absurd z (Nat.not_lt_zero x)⟩)
      · rw [E3.2 4 (by decide), E1.2 4 (by decide)]; exact hP k c hk5 hc
      refine g_loc [0, 1, 2, 3] hls ?_
      refine g_iinc C dX6_reckonSums_158 rfl (dn_m1 p) (by decide) ?_
      refine g_goto C dX6_reckonSums_161 (tgt := 36) (by decide) ?_
      refine ih S4 M4 (by omega) P4 ((F1.tr F3).tr F4) ((E1.tr E3).tr E4) (keep _ d4 (O3.tr O4) R4 (fun v hv => ?_))
      rw [I4 v hv, em]
      show _ ↔ (isN (a.sy r (3 - (4 - (p + 1)))) = true ∧ sumP (P (a.sy r (3 - (4 - (p + 1))) - 1)) (Sq P (a.sy r) (4 - (p + 1))) v) ∨ (isN (a.sy r (3 - (4 - (p + 1)))) = false ∧ _)
      rw [ep, hN, hk, show k + 1 - 1 = k by omega]
      constructor
      · rintro ⟨x, h1, h2, h3, h4, h5⟩
        exact Or.inl ⟨rfl, x, h3, h2, h4, (hsq _ (by omega)).mp h5⟩
      · rintro (⟨_, x, h1, h2, h3, h4⟩ | ⟨z, _⟩)
        · have := okc_lt h3
          exact ⟨x, by omega, h2, h1, h3, (hsq _ (by omega)).mpr h4⟩
        · exact absurd z.symm Bool.false_ne_true

set_option maxHeartbeats 4000000 in
set_option maxRecDepth 100000 in
theorem r_reckonSums (G : fm_G) (rd : Nat → Nat) (S : Rs) (M : fm_M) (Pi : RPic G rd S M) (a : Ab) (ha : AbOk a) (hy : ryI a S) (r : Nat) (bl : Int32) (P : Nat → Nat → Prop) (hr : r < a.nR) (hP : ∀ n c, n < 5 → c < 512 → ((0 < S.1 4 (512 * n + c) ∧ S.1 4 (512 * n + c) < bl) ↔ P n c)) : fm_Ct G yX6_reckonSums cX6_reckonSums 7 none 2 48 0 0 [.ref (rd 0), .int (nI r), .int bl] M (fun v M1 => v = none ∧ ∃ S', RPic G rd S' M1 ∧ RFr rd M M1 ∧ eq5 S S' ∧ rwI P (a.sy r) 0 (S'.1 5)) := by
  refine fm_head (by decide) (Nat.le_of_ble_eq_true rfl) rfl (fun X C N0 rt => ?_)
  refine g_iconst C dX6_reckonSums_0 (v := nI 0) rfl ?_
  refine g_istore_n C dX6_reckonSums_1 (by decide) ?_
  refine l_rsA (fr := 0) (lo := 0) (S := S) (M := M) C (fun S1 M1 P1 F1 E1 R1 => ?_) 512 0 S M (by omega) Pi RFr.rf eq5.rf (fun v hv => absurd hv (Nat.not_lt_zero v))
  refine g_iconst C dX6_reckonSums_34 (v := nI 3) rfl ?_
  refine g_istore_n C dX6_reckonSums_35 (by decide) ?_
  refine l_rsB (fr := 0) (lo := 0) (S := S) (M := M) C ha hy hr hP (fun S2 M2 ls P2 F2 E2 I2 => rt none M2 _ _ _ ls (fm_retV dX6_reckonSums_164) ⟨rfl, S2, P2, F2, E2, I2⟩ (Nat.le_refl _) (Nat.le_refl _)) 4 S1 M1 (by omega) P1 F1 E1 (fun p h1 h2 => ?_)
  have e : p = 4 := by omega
  subst e
  refine ⟨fun v => decide (v = 0), R1, fun v hv => ?_⟩
  show decide (v = 0) = true ↔ v = 0
  exact decide_eq_true_iff

