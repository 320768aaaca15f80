/-! THE REFERENCE: climb, reckon -/
/-- heights in the middle of round k + 1: Q are those found in it -/
def hmX (g : Gr) (k : Nat) (Q : Nat → Nat → Prop) (F : Nat → Int32) : Prop := ∀ n c, n < 5 → c < 512 → (Q n c ∧ ¬ Hh g k n c ∧ F (512 * n + c) = nI (k + 1)) ∨ (¬ Q n c ∧ ((Hh g k n c ∧ F (512 * n + c) = nI (hgt g n c)) ∨ (¬ Hh g k n c ∧ F (512 * n + c) = nI 0)))
theorem hmX.congr {g : Gr} {k : Nat} {Q Q' : Nat → Nat → Prop} {F : Nat → Int32} (h : hmX g k Q F) (hq : ∀ n c, n < 5 → c < 512 → (Q n c ↔ Q' n c)) : hmX g k Q' F := by
  intro n c hn hc
  rw [← hq n c hn hc]
  exact h n c hn hc
theorem hgt_pos {g : Gr} {n c h : Nat} (z : Hh g h n c) : 0 < hgt g n c := by
  obtain ⟨j, h1, _⟩ := hgt_s z
  omega
theorem hm_has {g : Gr} {k : Nat} (hk : k < 4000) {Q : Nat → Nat → Prop} {F : Nat → Int32} (h : hmX g k Q F) {n c : Nat} (hn : n < 5) (hc : c < 512) : (0 < F (512 * n + c) ∧ F (512 * n + c) < nI (k + 1)) ↔ Hh g k n c := by
  rcases h n c hn hc with ⟨_, h1, h2⟩ | ⟨_, ⟨h1, h2⟩ | ⟨h1, h2⟩⟩
  · rw [h2]
    exact ⟨fun z => absurd z.2 Int32.lt_irrefl, fun z => absurd z h1⟩
  · rw [h2]
    have := hgt_le h1
    have := hgt_pos h1
    exact ⟨fun _ => h1, fun _ => ⟨(nI_ltI (a := 0) (by omega) (by omega)).mpr (by omega), (nI_ltI (by omega) (by omega)).mpr (by omega)⟩⟩
  · rw [h2]
    exact ⟨fun z => absurd z.1 Int32.lt_irrefl, fun z => absurd z h1⟩
/-- found by rules below r, and by rule r out of sums below i -/
def fnX (a : Ab) (k r i n c : Nat) : Prop := Fnd (gO a) k r n c ∨ (¬ Hh (gO a) k n c ∧ n = a.lf r ∧ ∃ w, w < i ∧ Sq (Hh (gO a) k) (a.sy r) 4 w ∧ okc w (lcf (a.sy r) 4) = true ∧ c = w + lcf (a.sy r) 4)
theorem fnX_0 {a : Ab} {k r n c : Nat} : fnX a k r 0 n c ↔ Fnd (gO a) k r n c := ⟨fun z => z.elim id (fun ⟨_, _, w, h, _⟩ => absurd h (Nat.not_lt_zero w)), Or.inl⟩
theorem fnX_all {a : Ab} (ha : AbOk a) {k r n c : Nat} (hr : r < a.nR) : fnX a k r 512 n c ↔ Fnd (gO a) k (r + 1) n c := by
  have q := EHq ha hr k 4 (Nat.le_refl 4) c
  have e0 : nz (a.sy r) (4 - 4) = 0 := rfl
  rw [e0] at q
  constructor
  · rintro (⟨h1, r', h2, h3⟩ | ⟨h1, h2, w, h3, h4, h5, h6⟩)
    · exact ⟨h1, r', by omega, h3⟩
    · exact ⟨h1, r, Nat.lt_succ_self r, h2.symm, q.mpr ⟨w, h4, h5, h6⟩⟩
  · rintro ⟨h1, r', h2, h3, h4⟩
    by_cases he : r' = r
    · subst he
      obtain ⟨w, w1, w2, w3⟩ := q.mp h4
      exact Or.inr ⟨h1, h3.symm, w, Sq_lt _ _ w1, w1, w2, w3⟩
    · exact Or.inl ⟨h1, r', by omega, h3, h4⟩
theorem fnX_s {a : Ab} {k r i n c : Nat} : fnX a k r (i + 1) n c ↔ (fnX a k r i n c ∨ (¬ Hh (gO a) k n c ∧ n = a.lf r ∧ Sq (Hh (gO a) k) (a.sy r) 4 i ∧ okc i (lcf (a.sy r) 4) = true ∧ c = i + lcf (a.sy r) 4)) := by
  constructor
  · rintro (h | ⟨h1, h2, w, h3, h4⟩)
    · exact Or.inl (Or.inl h)
    · by_cases he : w = i
      · subst he; exact Or.inr ⟨h1, h2, h4⟩
      · exact Or.inl (Or.inr ⟨h1, h2, w, by omega, h4⟩)
  · rintro ((h | ⟨h1, h2, w, h3, h4⟩) | ⟨h1, h2, h3⟩)
    · exact Or.inl h
    · exact Or.inr ⟨h1, h2, w, by omega, h4⟩
    · exact Or.inr ⟨h1, h2, i, Nat.lt_succ_self i, h3⟩
/-- a rule that a round passes over finds nothing -/
theorem Fnd_pass {a : Ab} (ha : AbOk a) {k r : Nat} (hr : r < a.nR) (hp : ¬ (nz (a.sy r) 4 = 0 ↔ k = 0)) (n c : Nat) : Fnd (gO a) k (r + 1) n c ↔ Fnd (gO a) k r n c := by
  constructor
  · rintro ⟨h1, r', h2, h3, h4⟩
    by_cases he : r' = r
    · exfalso
      subst he
      have hsz : (gO a).sz r' = nz (a.sy r') 4 := rfl
      by_cases hz : nz (a.sy r') 4 = 0
      · have hk : k ≠ 0 := fun z => hp ⟨fun _ => z, fun _ => hz⟩
        obtain ⟨j, rfl⟩ : ∃ j, k = j + 1 := ⟨k - 1, by omega⟩
        have e1 := EH_last (gO a) r' (j + 1) c
        have e2 := EH_last (gO a) r' j c
        rw [hsz, hz] at e1 e2
        exact h1 ((Hh_EH (gO a) (j + 1) n c).mpr ⟨r', hr, h3, e2.mpr (e1.mp h4)⟩)
      · have hk : k = 0 := by
          by_cases z : k = 0
          · exact z
          · exact absurd ⟨fun q => absurd q hz, fun q => absurd q z⟩ hp
        subst hk
        obtain ⟨x, _, x2, _⟩ := (EH_step (gO a) r' 0 0 c (by rw [hsz]; omega)).mp h4
        exact x2
    · exact ⟨h1, r', by omega, h3, h4⟩
  · rintro ⟨h1, r', h2, h3⟩
    exact ⟨h1, r', by omega, h3⟩
/-- the same but for heights and sums -/
def eq4 (S S' : Rs) : Prop := S'.2 = S.2 ∧ ∀ k, k ≠ 4 → k ≠ 5 → S'.1 k = S.1 k
theorem eq4.rf {S : Rs} : eq4 S S := ⟨rfl, fun _ _ _ => rfl⟩
theorem eq4.tr {S S' S'' : Rs} (h : eq4 S S') (h2 : eq4 S' S'') : eq4 S S'' := ⟨h2.1.trans h.1, fun k h4 h5 => (h2.2 k h4 h5).trans (h.2 k h4 h5)⟩
theorem eq5.e4 {S S' : Rs} (h : eq5 S S') : eq4 S S' := ⟨h.1, fun k _ h5 => h.2 k h5⟩
theorem raI.e4 {S S' : Rs} {f : Nat → Int32} (h : raI S S' 4 f) : eq4 S S' := ⟨h.2, fun k h4 _ => h.ne h4⟩
theorem eq4.ry {a : Ab} {S S' : Rs} (h : eq4 S S') (hy : ryI a S) : ryI a S' := hy.of (by rw [h.1]) (h.2 1 (by decide) (by decide)) (h.2 2 (by decide) (by decide))
def nwQ (Q : Nat → Nat → Prop) : Prop := ∃ n c, n < 5 ∧ c < 512 ∧ Q n c
theorem hmX_hit {g : Gr} {k : Nat} {Q : Nat → Nat → Prop} {F : Nat → Int32} (h : hmX g k Q F) {n0 c0 : Nat} (hn0 : n0 < 5) (hc0 : c0 < 512) (h0 : F (512 * n0 + c0) = nI 0) (hk : k < 4000) (hl : ∀ n c, Hh g k n c → hgt g n c < 5000) : ¬ Hh g k n0 c0 ∧ ¬ Q n0 c0 ∧ hmX g k (fun n c => Q n c ∨ (n = n0 ∧ c = c0)) (upd F (512 * n0 + c0) (nI (k + 1))) := by
  have h1 : ¬ Hh g k n0 c0 ∧ ¬ Q n0 c0 := by
    rcases h n0 c0 hn0 hc0 with ⟨_, _, z⟩ | ⟨q1, ⟨q2, z⟩ | ⟨q2, z⟩⟩
    · rw [h0] at z
      have := (nI_eq (by omega) (by omega)).mp z
      omega
    · rw [h0] at z
      have h5 := hl _ _ q2
      have := hgt_pos q2
      have := (nI_eq (by omega) (by omega)).mp z
      omega
    · exact ⟨q2, q1⟩
  refine ⟨h1.1, h1.2, fun n c hn hc => ?_⟩
  by_cases he : n = n0 ∧ c = c0
  · obtain ⟨rfl, rfl⟩ := he
    exact Or.inl ⟨Or.inr ⟨rfl, rfl⟩, h1.1, pk_us⟩
  · have hne : 512 * n + c ≠ 512 * n0 + c0 := fun z => he (by omega)
    rw [pk_un hne]
    rcases h n c hn hc with ⟨q1, q2⟩ | ⟨q1, q2⟩
    · exact Or.inl ⟨Or.inl q1, q2⟩
    · exact Or.inr ⟨fun z => z.elim q1 he, q2⟩
theorem hmX_nz {g : Gr} {k : Nat} {Q : Nat → Nat → Prop} {F : Nat → Int32} (h : hmX g k Q F) {n0 c0 : Nat} (hn0 : n0 < 5) (hc0 : c0 < 512) (h0 : ¬ F (512 * n0 + c0) = nI 0) : Q n0 c0 ∨ Hh g k n0 c0 := by
  rcases h n0 c0 hn0 hc0 with ⟨q, _⟩ | ⟨q1, ⟨q2, z⟩ | ⟨q2, z⟩⟩
  · exact Or.inl q
  · exact Or.inr q2
  · exact absurd z h0

set_option maxHeartbeats 4000000 in
set_option maxRecDepth 100000 in
theorem l_climb2 {G : fm_G} {rd : Nat → Nat} {S : Rs} {M : fm_M} {X : fm_X} {fr lo mc ms : Nat} {a : Ab} {k r : Nat} {s : Nat → Bool} (C : GC G X RX6 cX6_climb 6 (fr + 3) (lo + 74) mc ms) (ha : AbOk a) (hy : ryI a S) (hr : r < a.nR) (hk : k < 3000) (hs0 : rowE (S.1 5) 0 s) (hsq : ∀ v, v < 512 → (s v = true ↔ Sq (Hh (gO a) k) (a.sy r) 4 v)) (kk : ∀ S' M1 b, RPic G rd S' M1 → RFr rd M M1 → eq4 S S' → hmX (gO a) k (fnX a k r 512) (S'.1 4) → (b = true ↔ nwQ (fnX a k r 512)) → GW G X 6 M1 0 0 129 [(0, .ref (rd 0)), (1, .int (nI (k + 1))), (2, .int (bI b)), (3, .int (nI r))] []) : ∀ d i S1 M1 b, i + d = 512 → RPic G rd S1 M1 → RFr rd M M1 → eq4 S S1 → S1.1 5 = S.1 5 → hmX (gO a) k (fnX a k r i) (S1.1 4) → (b = true ↔ nwQ (fnX a k r i)) → GW G X 6 M1 0 0 42 [(0, .ref (rd 0)), (1, .int (nI (k + 1))), (2, .int (bI b)), (3, .int (nI r)), (4, .int (nI i))] [] := by
  have h10 := ha.1
  have hlf := (ha.2.1 r hr).1
  have hlc : lcf (a.sy r) 4 < 512 := ((gO_ok ha).2 r hr).2.2.1
  have hl : ∀ n c, Hh (gO a) k n c → hgt (gO a) n c < 5000 := fun n c z => by have := hgt_le z; omega
  intro d
  induction d with
  | zero =>
    intro i S1 M1 b hi P1 F1 E1 E5 I1 hb1
    have e : i = 512 := by omega
    subst e
    refine g_iload C dX6_climb_42 rfl ?_
    refine g_sipush C dX6_climb_44 (v := nI 512) rfl ?_
    refine g_icmp_geN C dX6_climb_47 (tgt := 129) (by decide) (by decide) (by decide) (fun hb => g_loc [0, 1, 2, 3] rfl (kk S1 M1 b P1 F1 E1 I1 hb1)) (fun hb => absurd hb (by omega))
  | succ d ih =>
    intro i S1 M1 b hi P1 F1 E1 E5 I1 hb1
    have hsv : S1.1 5 i = bI (s i) := by rw [E5]; have := hs0 i (by omega); rw [show 512 * 0 + i = i by omega] at this; exact this
    have y1 := E1.ry hy
    have l1 := (y1.2 r hr).1
    have nohit : (∀ n c, n < 5 → c < 512 → (fnX a k r (i + 1) n c ↔ fnX a k r i n c)) → ∀ ls, fm_sel ls [0, 1, 2, 3, 4] = some [(0, .ref (rd 0)), (1, .int (nI (k + 1))), (2, .int (bI b)), (3, .int (nI r)), (4, .int (nI i))] → GW G X 6 M1 0 0 123 ls [] := by
      intro hq ls hls
      refine g_loc [0, 1, 2, 3, 4] hls ?_
      refine g_inc1 C dX6_climb_123 rfl (by decide) ?_
      refine g_goto C dX6_climb_126 (tgt := 42) (by decide) ?_
      refine ih (i + 1) S1 M1 b (by omega) P1 F1 E1 E5 (I1.congr (fun n c hn hc => (hq n c hn hc).symm)) (hb1.trans ⟨?_, ?_⟩)
      · rintro ⟨n, c, z1, z2, z3⟩; exact ⟨n, c, z1, z2, (hq n c z1 z2).mpr z3⟩
      · rintro ⟨n, c, z1, z2, z3⟩; exact ⟨n, c, z1, z2, (hq n c z1 z2).mp z3⟩
    have nosq : ¬ (s i = true ∧ okc i (lcf (a.sy r) 4) = true) → ∀ ls, fm_sel ls [0, 1, 2, 3, 4] = some [(0, .ref (rd 0)), (1, .int (nI (k + 1))), (2, .int (bI b)), (3, .int (nI r)), (4, .int (nI i))] → fm_lk ls 5 = some (.int (-1)) → GW G X 6 M1 0 0 76 ls [] := by
      intro hn ls hls h5
      refine g_iload C dX6_climb_76 h5 ?_
      refine g_if_lt C dX6_climb_78 (tgt := 123) (by decide) (fun hb => ?_) (fun hb => absurd (by decide) hb)
      refine nohit (fun n c _ _ => fnX_s.trans ⟨fun z => z.elim id (fun q => ?_), Or.inl⟩) ls hls
      exact absurd ⟨(hsq i (by omega)).mpr q.2.2.1, q.2.2.2.1⟩ hn
    refine g_iload C dX6_climb_42 rfl ?_
    refine g_sipush C dX6_climb_44 (v := nI 512) rfl ?_
    refine g_icmp_geN C dX6_climb_47 (tgt := 129) (by decide) (by omega) (by decide) (fun hb => absurd hb (by omega)) (fun hb => ?_)
    refine g_aload_n C dX6_climb_50 rfl ?_
    refine g_getf C fl_X6_22 dX6_climb_51 P1.ob rfl ?_
    refine g_iload C dX6_climb_54 rfl ?_
    refine g_zaldN C dX6_climb_56 P1.k5 (show i < 2560 by omega) (by decide) ?_
    rw [hsv]
    refine g_if_eq C dX6_climb_57 (tgt := 73) (by decide) (fun h0 => ?_) (fun h0 => ?_)
    · skip
      refine g_iconst C dX6_climb_73 (v := -1) rfl ?_
      refine g_istore C dX6_climb_74 (by decide) ?_
      exact nosq (fun z => by rw [bI_0.mp h0] at z; exact absurd z.1 Bool.false_ne_true) _ rfl rfl
    · have hst := bI_n0.mp h0
      refine g_iload C dX6_climb_60 rfl ?_
      refine g_aload_n C dX6_climb_62 rfl ?_
      refine g_iload_n C dX6_climb_63 rfl ?_
      refine g_callV (ci := 6) C dX6_climb_64 cw_X6_84 rfl (r_own G rd S1 M1 P1 a ha y1 r hr) P1.ob rfl rfl (Nat.le_of_ble_eq_true rfl) (by omega) (by omega) (by omega) (by omega) (fun v M2 hq => ?_)
      obtain ⟨rfl, rfl⟩ := hq
      show GW G X 6 M2 0 0 67 _ (.int (nI (lcf (a.sy r) 4)) :: .int (nI i) :: [])
      refine g_callS C dX6_climb_67 cw_X6_75 (r_sum G M2 i (lcf (a.sy r) 4) (by omega) hlc) rfl rfl (Nat.le_of_ble_eq_true rfl) (by omega) (by omega) (by omega) (by omega) (fun v M3 hq => ?_)
      obtain ⟨rfl, rfl⟩ := hq
      show GW G X 6 M3 0 0 70 _ [.int (if okc i (lcf (a.sy r) 4) = true then nI (i + lcf (a.sy r) 4) else -1)]
      by_cases hok : okc i (lcf (a.sy r) 4) = true
      · rw [if_pos hok]
        have hlt := okc_lt hok
        have hix : 512 * a.lf r + (i + lcf (a.sy r) 4) < 2560 := by omega
        refine g_goto C dX6_climb_70 (tgt := 74) (by decide) ?_
        refine g_istore C dX6_climb_74 (by decide) ?_
        refine g_iload C dX6_climb_76 rfl ?_
        refine g_if_lt C dX6_climb_78 (tgt := 123) (by decide) (fun hb => absurd hb (nI_pos (by omega))) (fun hb => ?_)
        refine g_aload_n C dX6_climb_81 rfl ?_
        refine g_getf C fl_X6_19 dX6_climb_82 P1.ob rfl ?_
        refine g_sipush C dX6_climb_85 (v := nI 512) rfl ?_
        refine g_aload_n C dX6_climb_88 rfl ?_
        refine g_getf C fl_X6_7 dX6_climb_89 P1.ob rfl ?_
        refine g_iload_n C dX6_climb_92 rfl ?_
        refine g_ialdN C dX6_climb_93 P1.k1 (show r < 10 by omega) (by decide) ?_
        rw [l1]
        refine g_imul C dX6_climb_94 ?_
        refine g_topI (pk_mul 512 _) ?_
        refine g_iload C dX6_climb_95 rfl ?_
        refine g_iadd C dX6_climb_97 ?_
        refine g_topI (nI_add _ _) ?_
        refine g_ialdN C dX6_climb_98 P1.k4 hix (by decide) ?_
        refine g_if_ne C dX6_climb_99 (tgt := 123) (by decide) (fun h1 => ?_) (fun h1 => ?_)
        · refine nohit (fun n c _ _ => fnX_s.trans ⟨fun z => z.elim id (fun q => ?_), Or.inl⟩) _ rfl
          obtain ⟨q1, rfl, q3, q4, rfl⟩ := q
          exact (hmX_nz I1 hlf (by omega) h1).elim id (fun z => absurd z q1)
        · obtain ⟨n1, n2, I2⟩ := hmX_hit I1 hlf (show i + lcf (a.sy r) 4 < 512 by omega) h1 (by omega) hl
          refine g_aload_n C dX6_climb_102 rfl ?_
          refine g_getf C fl_X6_19 dX6_climb_103 P1.ob rfl ?_
          refine g_sipush C dX6_climb_106 (v := nI 512) rfl ?_
          refine g_aload_n C dX6_climb_109 rfl ?_
          refine g_getf C fl_X6_7 dX6_climb_110 P1.ob rfl ?_
          refine g_iload_n C dX6_climb_113 rfl ?_
          refine g_ialdN C dX6_climb_114 P1.k1 (show r < 10 by omega) (by decide) ?_
          rw [l1]
          refine g_imul C dX6_climb_115 ?_
          refine g_topI (pk_mul 512 _) ?_
          refine g_iload C dX6_climb_116 rfl ?_
          refine g_iadd C dX6_climb_118 ?_
          refine g_topI (nI_add _ _) ?_
          refine g_iload_n C dX6_climb_119 rfl ?_
          refine g_iastN C dX6_climb_120 P1.k4 hix (by decide) ?_
          refine g_abs (fun M' => ∃ S2, RPic G rd S2 M' ∧ RFr rd M M' ∧ raI S1 S2 4 (upd (S1.1 4) (512 * a.lf r + (i + lcf (a.sy r) 4)) (nI (k + 1)))) ⟨_, P1.ar (n := 2560) (by decide) (by decide) _ rfl, F1.st (k := 4) (by decide), rfl, rfl⟩ (fun M4 ⟨S4, P4, F4, A4⟩ => ?_)
          refine g_iconst C dX6_climb_121 (v := nI 1) rfl ?_
          refine g_istore_n C dX6_climb_122 (by decide) ?_
          refine g_inc1 C dX6_climb_123 rfl (by decide) ?_
          refine g_goto C dX6_climb_126 (tgt := 42) (by decide) ?_
          refine g_loc [0, 1, 2, 3, 4] rfl ?_
          refine ih (i + 1) S4 M4 true (by omega) P4 F4 (E1.tr A4.e4) (by rw [A4.ne (by decide)]; exact E5) ?_ ⟨fun _ => ⟨a.lf r, i + lcf (a.sy r) 4, hlf, by omega, ?_⟩, fun _ => rfl⟩
          · rw [A4.at]
            refine I2.congr (fun n c _ _ => ?_)
            rw [fnX_s]
            constructor
            · rintro (z | ⟨z1, z2⟩)
              · exact Or.inl z
              · rw [z1, z2]; exact Or.inr ⟨n1, rfl, (hsq i (by omega)).mp hst, hok, rfl⟩
            · rintro (z | ⟨_, z1, _, _, z2⟩)
              · exact Or.inl z
              · exact Or.inr ⟨z1, z2⟩
          · exact fnX_s.mpr (Or.inr ⟨n1, rfl, (hsq i (by omega)).mp hst, hok, rfl⟩)
      · rw [if_neg hok]
        refine g_goto C dX6_climb_70 (tgt := 74) (by decide) ?_
        refine g_istore C dX6_climb_74 (by decide) ?_
        exact nosq (fun z => hok z.2) _ rfl rfl

set_option maxHeartbeats 4000000 in
set_option maxRecDepth 100000 in
theorem l_climb {G : fm_G} {rd : Nat → Nat} {S : Rs} {M : fm_M} {X : fm_X} {fr lo mc ms : Nat} {a : Ab} {k : Nat} (C : GC G X RX6 cX6_climb 6 (fr + 3) (lo + 74) mc ms) (ha : AbOk a) (hy : ryI a S) (hk : k < 3000) (kk : ∀ S' M1 b ls, fm_lk ls 2 = some (.int (bI b)) → RPic G rd S' M1 → RFr rd M M1 → eq4 S S' → hmX (gO a) k (Fnd (gO a) k a.nR) (S'.1 4) → (b = true ↔ nwQ (Fnd (gO a) k a.nR)) → GW G X 6 M1 0 0 135 ls []) : ∀ d r S1 M1 b, r + d = a.nR → RPic G rd S1 M1 → RFr rd M M1 → eq4 S S1 → hmX (gO a) k (Fnd (gO a) k r) (S1.1 4) → (b = true ↔ nwQ (Fnd (gO a) k r)) → GW G X 6 M1 0 0 4 [(0, .ref (rd 0)), (1, .int (nI (k + 1))), (2, .int (bI b)), (3, .int (nI r))] [] := by
  have h10 := ha.1
  intro d
  induction d with
  | zero =>
    intro r S1 M1 b hr P1 F1 E1 I1 hb1
    have e : r = a.nR := by omega
    subst e
    have e0 : S1.2 1 = nI a.nR := (E1.ry hy).1
    refine g_iload_n C dX6_climb_4 rfl ?_
    refine g_aload_n C dX6_climb_5 rfl ?_
    refine g_getf C fl_X6_53 dX6_climb_6 P1.ob rfl ?_
    rw [e0]
    refine g_icmp_geN C dX6_climb_9 (tgt := 135) (by decide) (by omega) (by omega) (fun hb => kk S1 M1 b _ rfl P1 F1 E1 I1 hb1) (fun hb => absurd hb (by omega))
  | succ d ih =>
    intro r S1 M1 b hr P1 F1 E1 I1 hb1
    have y1 := E1.ry hy
    have e0 : S1.2 1 = nI a.nR := y1.1
    have hrn : r < a.nR := by omega
    refine g_iload_n C dX6_climb_4 rfl ?_
    refine g_aload_n C dX6_climb_5 rfl ?_
    refine g_getf C fl_X6_53 dX6_climb_6 P1.ob rfl ?_
    rw [e0]
    refine g_icmp_geN C dX6_climb_9 (tgt := 135) (by decide) (by omega) (by omega) (fun hb => absurd hb (by omega)) (fun hb => ?_)
    refine g_aload_n C dX6_climb_12 rfl ?_
    refine g_iload_n C dX6_climb_13 rfl ?_
    refine g_callV (ci := 6) C dX6_climb_14 cw_X6_78 rfl (r_isPlain G rd S1 M1 P1 a ha y1 r hrn) P1.ob rfl rfl (Nat.le_of_ble_eq_true rfl) (by omega) (by omega) (by omega) (by omega) (fun v M2 hq => ?_)
    obtain ⟨rfl, rfl⟩ := hq
    show GW G X 6 M2 0 0 17 _ [.int (bI (decide (nz (a.sy r) 4 = 0)))]
    have cmp : GW G X 6 M2 0 0 27 [(0, .ref (rd 0)), (1, .int (nI (k + 1))), (2, .int (bI b)), (3, .int (nI r))] [.int (bI (decide (k = 0))), .int (bI (decide (nz (a.sy r) 4 = 0)))] := by
      by_cases hp : nz (a.sy r) 4 = 0 ↔ k = 0
      · have hd : decide (nz (a.sy r) 4 = 0) = decide (k = 0) := decide_eq_decide.mpr hp
        rw [hd]
        refine g_icmp_eq C dX6_climb_27 (tgt := 33) (by decide) (fun h1 => ?_) (fun h1 => absurd rfl h1)
        refine g_aload_n C dX6_climb_33 rfl ?_
        refine g_iload_n C dX6_climb_34 rfl ?_
        refine g_iload_n C dX6_climb_35 rfl ?_
        refine g_callV (ci := 6) C dX6_climb_36 cw_X6_81 rfl (r_reckonSums G rd S1 M2 P1 a ha y1 r (nI (k + 1)) (Hh (gO a) k) hrn (fun n c hn hc => hm_has (by omega) I1 hn hc)) P1.ob rfl rfl (Nat.le_of_ble_eq_true rfl) (by omega) (by omega) (by omega) (by omega) (fun v M3 hq => ?_)
        obtain ⟨rfl, S3, P3, F3, E3, I3⟩ := hq
        obtain ⟨s, s1, s2⟩ := I3 0 (Nat.le_refl 0) (by decide)
        have h4 : S3.1 4 = S1.1 4 := E3.2 4 (by decide)
        show GW G X 6 M3 0 0 39 _ []
        refine g_iconst C dX6_climb_39 (v := nI 0) rfl ?_
        refine g_istore C dX6_climb_40 (by decide) ?_
        refine l_climb2 (fr := fr) (lo := lo) (S := S3) (M := M3) C ha (E3.ry y1) hrn hk s1 s2 (fun S4 M4 b4 P4 F4 E4 I4 hb4 => ?_) 512 0 S3 M3 b (by omega) P3 RFr.rf eq4.rf rfl (by rw [h4]; exact I1.congr (fun n c _ _ => fnX_0.symm)) (hb1.trans ⟨?_, ?_⟩)
        · skip
          refine g_inc1 C dX6_climb_129 rfl (by decide) ?_
          refine g_goto C dX6_climb_132 (tgt := 4) (by decide) ?_
          refine ih (r + 1) S4 M4 b4 (by omega) P4 ((F1.tr F3).tr F4) ((E1.tr E3.e4).tr E4) (I4.congr (fun n c _ _ => fnX_all ha hrn)) (hb4.trans ⟨?_, ?_⟩)
          · rintro ⟨n, c, z1, z2, z3⟩; exact ⟨n, c, z1, z2, (fnX_all ha hrn).mp z3⟩
          · rintro ⟨n, c, z1, z2, z3⟩; exact ⟨n, c, z1, z2, (fnX_all ha hrn).mpr z3⟩
        · rintro ⟨n, c, z1, z2, z3⟩; exact ⟨n, c, z1, z2, fnX_0.mpr z3⟩
        · rintro ⟨n, c, z1, z2, z3⟩; exact ⟨n, c, z1, z2, fnX_0.mp z3⟩
      · have hd : ¬ bI (decide (nz (a.sy r) 4 = 0)) = bI (decide (k = 0)) := fun z => hp (by
          by_cases h1 : nz (a.sy r) 4 = 0 <;> by_cases h2 : k = 0
          · exact ⟨fun _ => h2, fun _ => h1⟩
          · rw [decide_eq_true h1, decide_eq_false h2] at z; exact absurd z (by decide)
          · rw [decide_eq_false h1, decide_eq_true h2] at z; exact absurd z (by decide)
          · exact ⟨fun q => absurd q h1, fun q => absurd q h2⟩)
        have hq := Fnd_pass ha hrn hp
        refine g_icmp_eq C dX6_climb_27 (tgt := 33) (by decide) (fun h1 => absurd h1 hd) (fun h1 => ?_)
        refine g_goto C dX6_climb_30 (tgt := 129) (by decide) ?_
        refine g_inc1 C dX6_climb_129 rfl (by decide) ?_
        refine g_goto C dX6_climb_132 (tgt := 4) (by decide) ?_
        refine ih (r + 1) S1 M2 b (by omega) P1 F1 E1 (I1.congr (fun n c _ _ => (hq n c).symm)) (hb1.trans ⟨?_, ?_⟩)
        · rintro ⟨n, c, z1, z2, z3⟩; exact ⟨n, c, z1, z2, (hq n c).mpr z3⟩
        · rintro ⟨n, c, z1, z2, z3⟩; exact ⟨n, c, z1, z2, (hq n c).mp z3⟩
    refine g_iload_n C dX6_climb_17 rfl ?_
    refine g_iconst C dX6_climb_18 (v := nI 1) rfl ?_
    refine g_icmp_neN C dX6_climb_19 (tgt := 26) (by decide) (by omega) (by decide) (fun h1 => ?_) (fun h1 => ?_)
    · rw [decide_eq_false (show ¬ k = 0 by omega)] at cmp
      refine g_iconst C dX6_climb_26 (v := nI 0) rfl ?_
      exact cmp
    · rw [decide_eq_true (show k = 0 by omega)] at cmp
      refine g_iconst C dX6_climb_22 (v := nI 1) rfl ?_
      refine g_goto C dX6_climb_23 (tgt := 27) (by decide) ?_
      exact cmp

/-- heights behind round k -/
def hhI (g : Gr) (k : Nat) (F : Nat → Int32) : Prop := ∀ n c, n < 5 → c < 512 → (Hh g k n c ∧ F (512 * n + c) = nI (hgt g n c)) ∨ (¬ Hh g k n c ∧ F (512 * n + c) = nI 0)
theorem hhI.mX {g : Gr} {k : Nat} {F : Nat → Int32} (h : hhI g k F) : hmX g k (Fnd g k 0) F := fun n c hn hc => Or.inr ⟨fun ⟨_, r, z, _⟩ => absurd z (Nat.not_lt_zero r), h n c hn hc⟩
theorem hmX.hh {g : Gr} {k : Nat} {F : Nat → Int32} (h : hmX g k (Fnd g k g.nR) F) : hhI g (k + 1) F := by
  intro n c hn hc
  rcases h n c hn hc with ⟨q1, q2, q3⟩ | ⟨q1, ⟨q2, q3⟩ | ⟨q2, q3⟩⟩
  · have z := (Fnd_all g k n c).mp q1
    exact Or.inl ⟨z.1, by rw [q3, hgt_eq z.1 z.2]⟩
  · exact Or.inl ⟨Hh_mono1 g k n c q2, q3⟩
  · exact Or.inr ⟨fun z => q1 ((Fnd_all g k n c).mpr ⟨z, q2⟩), q3⟩

set_option maxHeartbeats 4000000 in
set_option maxRecDepth 100000 in
theorem r_climb (G : fm_G) (rd : Nat → Nat) (S : Rs) (M : fm_M) (Pi : RPic G rd S M) (a : Ab) (ha : AbOk a) (hy : ryI a S) (k : Nat) (hk : k < 3000) (h : hhI (gO a) k (S.1 4)) : fm_Ct G yX6_climb cX6_climb 6 (some .boolean) 3 74 0 0 [.ref (rd 0), .int (nI (k + 1))] M (fun v M1 => ∃ b S', v = some (.int (bI b)) ∧ (b = true ↔ nwP (gO a) k 5) ∧ RPic G rd S' M1 ∧ RFr rd M M1 ∧ eq4 S S' ∧ hhI (gO a) (k + 1) (S'.1 4)) := by
  refine fm_head (by decide) (Nat.le_of_ble_eq_true rfl) rfl (fun X C N0 rt => ?_)
  refine g_iconst C dX6_climb_0 (v := nI 0) rfl ?_
  refine g_istore_n C dX6_climb_1 (by decide) ?_
  refine g_iconst C dX6_climb_2 (v := nI 0) rfl ?_
  refine g_istore_n C dX6_climb_3 (by decide) ?_
  refine l_climb (fr := 0) (lo := 0) (S := S) (M := M) C ha hy hk (fun S1 M1 b ls hls P1 F1 E1 I1 hb1 => ?_) a.nR 0 S M false (by omega) Pi RFr.rf eq4.rf h.mX ⟨fun z => absurd z Bool.false_ne_true, fun ⟨n, c, _, _, _, r, z, _⟩ => absurd z (Nat.not_lt_zero r)⟩
  refine g_iload_n C dX6_climb_135 hls ?_
  refine rt (some (.int (bI b))) M1 _ _ _ ls (fm_retZ (bI_01 b) dX6_climb_136) ⟨b, S1, rfl, hb1.trans ⟨?_, ?_⟩, P1, F1, E1, hmX.hh I1⟩ (Nat.le_refl _) (Nat.le_refl _)
  · rintro ⟨n, c, z1, z2, z3⟩; exact ⟨n, c, z1, z2, (Fnd_all (gO a) k n c).mp z3⟩
  · rintro ⟨n, c, z1, z2, z3⟩; exact ⟨n, c, z1, z2, (Fnd_all (gO a) k n c).mpr z3⟩

/-- heights are reckoned -/
def hwI (g : Gr) (F : Nat → Int32) : Prop := ∀ n c, n < 5 → c < 512 → (Tr g n c ∧ F (512 * n + c) = nI (hgt g n c) ∧ hgt g n c < 4000) ∨ (¬ Tr g n c ∧ F (512 * n + c) = nI 0)

set_option maxHeartbeats 4000000 in
set_option maxRecDepth 100000 in
theorem l_reck1 {G : fm_G} {rd : Nat → Nat} {S : Rs} {M : fm_M} {X : fm_X} {fr lo mc ms : Nat} (C : GC G X RX6 cX6_reckon 2 (fr + 4) (lo + 99) mc ms) (kk : ∀ S' M1, RPic G rd S' M1 → RFr rd M M1 → eq4 S S' → (∀ j, j < 2560 → S'.1 4 j = nI 0) → GW G X 2 M1 0 0 30 [(0, .ref (rd 0))] []) : ∀ d i S1 M1, i + d = 2560 → RPic G rd S1 M1 → RFr rd M M1 → eq4 S S1 → (∀ j, j < i → S1.1 4 j = nI 0) → GW G X 2 M1 0 0 10 [(0, .ref (rd 0)), (1, .int (nI i))] [] := by
  intro d
  induction d with
  | zero =>
    intro i S1 M1 hi P1 F1 E1 I1
    have e : i = 2560 := by omega
    subst e
    refine g_iload_n C dX6_reckon_10 rfl ?_
    refine g_sipush C dX6_reckon_11 (v := nI 2560) rfl ?_
    refine g_icmp_geN C dX6_reckon_14 (tgt := 30) (by decide) (by decide) (by decide) (fun hb => g_loc [0] rfl (kk S1 M1 P1 F1 E1 I1)) (fun hb => absurd hb (by omega))
  | succ d ih =>
    intro i S1 M1 hi P1 F1 E1 I1
    refine g_iload_n C dX6_reckon_10 rfl ?_
    refine g_sipush C dX6_reckon_11 (v := nI 2560) rfl ?_
    refine g_icmp_geN C dX6_reckon_14 (tgt := 30) (by decide) (by omega) (by decide) (fun hb => absurd hb (by omega)) (fun hb => ?_)
    refine g_aload_n C dX6_reckon_17 rfl ?_
    refine g_getf C fl_X6_19 dX6_reckon_18 P1.ob rfl ?_
    refine g_iload_n C dX6_reckon_21 rfl ?_
    refine g_iconst C dX6_reckon_22 (v := nI 0) rfl ?_
    refine g_iastN C dX6_reckon_23 P1.k4 (show i < 2560 by omega) (by decide) ?_
    refine g_abs (fun M' => ∃ S2, RPic G rd S2 M' ∧ RFr rd M M' ∧ raI S1 S2 4 (upd (S1.1 4) i (nI 0))) ⟨_, P1.ar (n := 2560) (by decide) (by decide) _ rfl, F1.st (k := 4) (by decide), rfl, rfl⟩ (fun M3 ⟨S3, P3, F3, A3⟩ => ?_)
    refine g_inc1 C dX6_reckon_24 rfl (by decide) ?_
    refine g_goto C dX6_reckon_27 (tgt := 10) (by decide) ?_
    refine ih (i + 1) S3 M3 (by omega) P3 F3 (E1.tr A3.e4) (fun j hj => ?_)
    rw [A3.at]
    by_cases he : j = i
    · subst he; exact pk_us
    · rw [pk_un he]; exact I1 j (by omega)

set_option maxHeartbeats 4000000 in
set_option maxRecDepth 100000 in
theorem l_reck2 {G : fm_G} {rd : Nat → Nat} {S : Rs} {M : fm_M} {X : fm_X} {fr lo mc ms : Nat} {a : Ab} (C : GC G X RX6 cX6_reckon 2 (fr + 4) (lo + 99) mc ms) (ha : AbOk a) (hy : ryI a S) (kk : ∀ S' M1 ls, fm_lk ls 0 = some (.ref (rd 0)) → RPic G rd S' M1 → RFr rd M M1 → eq4 S S' → hwI (gO a) (S'.1 4) → GW G X 2 M1 0 0 46 ls []) : ∀ d k S1 M1, k + d = 2561 → RPic G rd S1 M1 → RFr rd M M1 → eq4 S S1 → hhI (gO a) k (S1.1 4) → (∀ j, j < k → ∃ n c, Hh (gO a) (j + 1) n c ∧ ¬ Hh (gO a) j n c) → GW G X 2 M1 0 0 32 [(0, .ref (rd 0)), (1, .int (nI (k + 1)))] [] := by
  intro d
  induction d with
  | zero =>
    intro k S1 M1 hd P1 F1 E1 I1 b1
    exact absurd (Hh_short (gO_ok ha) b1) (by omega)
  | succ d ih =>
    intro k S1 M1 hd P1 F1 E1 I1 b1
    refine g_aload_n C dX6_reckon_32 rfl ?_
    refine g_iload_n C dX6_reckon_33 rfl ?_
    refine g_callV (ci := 6) C dX6_reckon_34 cw_X6_88 rfl (r_climb G rd S1 M1 P1 a ha (E1.ry hy) k (by omega) I1) P1.ob rfl rfl (Nat.le_of_ble_eq_true rfl) (by omega) (by omega) (by omega) (by omega) (fun v M2 hq => ?_)
    obtain ⟨b, S2, rfl, hb, P2, F2, E2, I2⟩ := hq
    show GW G X 2 M2 0 0 37 _ [.int (bI b)]
    refine g_if_eq C dX6_reckon_37 (tgt := 46) (by decide) (fun h0 => ?_) (fun h0 => ?_)
    · refine kk S2 M2 _ rfl P2 (F1.tr F2) (E1.tr E2) (fun n c hn hc => ?_)
      have hst : ∀ n c, Hh (gO a) (k + 1) n c → Hh (gO a) k n c := by
        intro n c z
        obtain ⟨z1, z2⟩ := Hh_lt (gO_ok ha) z
        by_cases hz : Hh (gO a) k n c
        · exact hz
        · have := hb.mpr ⟨n, c, z1, z2, z, hz⟩
          rw [bI_0.mp h0] at this; cases this
      have htr : Tr (gO a) n c ↔ Hh (gO a) (k + 1) n c := by
        constructor
        · rintro ⟨h, z⟩
          by_cases hz : h ≤ k
          · exact Hh_mono (gO a) (by omega) z
          · exact Hh_mono1 _ _ _ _ (Hh_stop hst h (by omega) n c z)
        · exact fun z => ⟨_, z⟩
      rcases I2 n c hn hc with ⟨q1, q2⟩ | ⟨q1, q2⟩
      · exact Or.inl ⟨htr.mpr q1, q2, by have := hgt_le q1; omega⟩
      · exact Or.inr ⟨fun z => q1 (htr.mp z), q2⟩
    · skip
      refine g_inc1 C dX6_reckon_40 rfl (by decide) ?_
      refine g_goto C dX6_reckon_43 (tgt := 32) (by decide) ?_
      refine ih (k + 1) S2 M2 (by omega) P2 (F1.tr F2) (E1.tr E2) I2 (fun j hj => ?_)
      by_cases he : j = k
      · subst he
        obtain ⟨n, c, _, _, z⟩ := hb.mp (bI_n0.mp h0)
        exact ⟨n, c, z⟩
      · exact b1 j (by omega)

/-- what the reference holds of the abstract state -/
def RR (a : Ab) (S : Rs) : Prop := ryI a S ∧ (∀ r, r < a.nR → S.1 3 r = nI (a.us r)) ∧ ((a.st = 0 ∧ S.2 3 = -1) ∨ (0 < a.st ∧ S.2 3 = nI a.st)) ∧ (∀ t, t < a.st → S.1 6 t = nI (a.sp t)) ∧ (S.2 2 = nI 0 ∨ (S.2 2 = nI 1 ∧ hwI (gO a) (S.1 4)))
theorem RR.of {a : Ab} {S S' : Rs} (h : RR a S) (h1 : ∀ i, i = 1 ∨ i = 2 ∨ i = 3 → S'.2 i = S.2 i) (h2 : ∀ k, k = 1 ∨ k = 2 ∨ k = 3 ∨ k = 4 ∨ k = 6 → S'.1 k = S.1 k) : RR a S' := by
  obtain ⟨q1, q2, q3, q4, q5⟩ := h
  refine ⟨q1.of (h1 1 (by omega)) (h2 1 (by omega)) (h2 2 (by omega)), fun r hr => ?_, ?_, fun t ht => ?_, ?_⟩
  · rw [h2 3 (by omega)]; exact q2 r hr
  · rw [h1 3 (by omega)]; exact q3
  · rw [h2 6 (by omega)]; exact q4 t ht
  · rw [h1 2 (by omega), h2 4 (by omega)]; exact q5

set_option maxHeartbeats 4000000 in
set_option maxRecDepth 100000 in
theorem r_reckon (G : fm_G) (rd : Nat → Nat) (S : Rs) (M : fm_M) (Pi : RPic G rd S M) (a : Ab) (ha : AbOk a) (h : RR a S) : fm_Ct G yX6_reckon cX6_reckon 2 none 4 99 0 0 [.ref (rd 0)] M (fun v M1 => v = none ∧ ∃ S', RPic G rd S' M1 ∧ RFr rd M M1 ∧ RR a S' ∧ hwI (gO a) (S'.1 4) ∧ S'.2 0 = S.2 0) := by
  have h0 := h
  obtain ⟨q1, q2, q3, q4, q5⟩ := h
  refine fm_head (by decide) (Nat.le_of_ble_eq_true rfl) rfl (fun X C N0 rt => ?_)
  refine g_aload_n C dX6_reckon_0 rfl ?_
  refine g_getf C fl_X6_60 dX6_reckon_1 Pi.ob rfl ?_
  rcases q5 with q5 | ⟨q5, q6⟩
  rotate_left
  · rw [q5]
    refine g_if_eq C dX6_reckon_4 (tgt := 8) (by decide) (fun hb => absurd hb (by decide)) (fun hb => ?_)
    exact rt none M _ _ _ _ (fm_retV dX6_reckon_7) ⟨rfl, S, Pi, RFr.rf, h0, q6, rfl⟩ (Nat.le_refl _) (Nat.le_refl _)
  rw [q5]
  refine g_if_eq C dX6_reckon_4 (tgt := 8) (by decide) (fun hb => ?_) (fun hb => absurd (by decide) hb)
  refine g_iconst C dX6_reckon_8 (v := nI 0) rfl ?_
  refine g_istore_n C dX6_reckon_9 (by decide) ?_
  refine l_reck1 (fr := 0) (lo := 0) (S := S) (M := M) C (fun S1 M1 P1 F1 E1 I1 => ?_) 2560 0 S M (by omega) Pi RFr.rf eq4.rf (fun j hj => absurd hj (Nat.not_lt_zero j))
  refine g_iconst C dX6_reckon_30 (v := nI 1) rfl ?_
  refine g_istore_n C dX6_reckon_31 (by decide) ?_
  refine l_reck2 (fr := 0) (lo := 0) (S := S) (M := M) C ha q1 (fun S2 M2 ls hls P2 F2 E2 I2 => ?_) 2561 0 S1 M1 (by omega) P1 F1 E1 (fun n c hn hc => Or.inr ⟨fun z => z, I1 _ (by omega)⟩) (fun j hj => absurd hj (Nat.not_lt_zero j))
  refine g_aload_n C dX6_reckon_46 hls ?_
  refine g_iconst C dX6_reckon_47 (v := nI 1) rfl ?_
  refine g_putf C fl_X6_60 rfl dX6_reckon_48 P2.ob rfl rfl (Nat.le_of_ble_eq_true rfl) ?_
  have A : ∀ i, i ≠ 2 → va_up S2.2 2 (nI 1) i = S.2 i := fun i hi => by rw [va_up_ne _ _ hi, E2.1]
  have B : ∀ k, k ≠ 4 → k ≠ 5 → S2.1 k = S.1 k := fun k h4 h5 => E2.2 k h4 h5
  refine rt none _ _ _ _ _ (fm_retV dX6_reckon_51) ⟨rfl, _, P2.sc 2 (nI 1) rfl, F2.st (k := 0) (by decide), ⟨q1.of (A 1 (by decide)) (B 1 (by decide) (by decide)) (B 2 (by decide) (by decide)), fun r hr => ?_, ?_, fun t ht => ?_, Or.inr ⟨(show va_up S2.2 2 (nI 1) 2 = nI 1 from va_up_self _ _ _), I2⟩⟩, I2, A 0 (by decide)⟩ (Nat.le_refl _) (Nat.le_refl _)
  · show S2.1 3 r = _
    rw [B 3 (by decide) (by decide)]; exact q2 r hr
  · show (_ ∧ va_up S2.2 2 (nI 1) 3 = _) ∨ (_ ∧ va_up S2.2 2 (nI 1) 3 = _)
    rw [A 3 (by decide)]; exact q3
  · show S2.1 6 t = _
    rw [B 6 (by decide) (by decide)]; exact q4 t ht

