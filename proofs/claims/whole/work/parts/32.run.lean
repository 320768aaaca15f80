/-! LetterCounts.runRound, workOut -/
/-- the same but for sets, heights, roots and rounds -/
def eqW (S S' : Cs) : Prop := eqY S S' (fun _ => True) (fun j => j < 10 ∨ (20 ≤ j ∧ j < 70))
theorem eqX.W {S S' : Cs} {ks js : List Nat} (h : eqX S S' ks js) (hj : ∀ j ∈ js, j < 10 ∨ (20 ≤ j ∧ j < 70)) : eqW S S' := h.Y (fun _ _ => trivial) hj
theorem eqY.W {S S' : Cs} {pk pj : Nat → Prop} (h : eqY S S' pk pj) (hj : ∀ j, pj j → j < 10 ∨ (20 ≤ j ∧ j < 70)) : eqW S S' := h.wk (fun _ _ => trivial) hj
theorem ruS.of {g : Gr} {S S' : Cs} (h : ruS g S) (hW : eqW S S') (hg : g.nR ≤ 10) : ruS g S' := ⟨by rw [hW.2.2]; exact h.1, fun r hr => (h.2 r hr).of hW.2.2 (hW.2.1 _ (by omega))⟩
/-- something new of nonterminals below m -/
def nwP (g : Gr) (h m : Nat) : Prop := ∃ n c, n < m ∧ c < 512 ∧ Hh g (h + 1) n c ∧ ¬ Hh g h n c
theorem nwP_s {g : Gr} {h m : Nat} {b e : Bool} (hb : b = true ↔ nwP g h m) (he : e = true ↔ ∀ c, c < 512 → ¬ (Hh g (h + 1) m c ∧ ¬ Hh g h m c)) : (b || !e) = true ↔ nwP g h (m + 1) := by
  rw [Bool.or_eq_true, hb]
  constructor
  · rintro (⟨n, c, h1, h2⟩ | h1)
    · exact ⟨n, c, by omega, h2⟩
    · have h3 : ¬ ∀ c, c < 512 → ¬ (Hh g (h + 1) m c ∧ ¬ Hh g h m c) := fun z => by
        rw [he.mpr z] at h1; cases h1
      by_cases h4 : ∃ c, c < 512 ∧ Hh g (h + 1) m c ∧ ¬ Hh g h m c
      · obtain ⟨c, h5, h6⟩ := h4
        exact ⟨m, c, Nat.lt_succ_self m, h5, h6⟩
      · exact absurd (fun c hc z => h4 ⟨c, hc, z⟩) h3
  · rintro ⟨n, c, h1, h2, h3⟩
    by_cases hn : n = m
    · subst hn
      right
      cases e with
      | false => rfl
      | true => exact absurd h3 (he.mp rfl c h2)
    · exact Or.inl ⟨n, c, by omega, h2, h3⟩
theorem krus_at {nr r : Nat} {ad : Nat → Nat → Nat} (h : r < nr) : (fun r => if r < nr then some (ad 4 r) else none) r = some (ad 4 r) := if_pos h

set_option maxHeartbeats 4000000 in
set_option maxRecDepth 100000 in
theorem l_rr1 {G : fm_G} {ad : Nat → Nat → Nat} {nr : Nat} {S : Cs} {M : fm_M} {X : fm_X} {fr lo mc ms : Nat} {g : Gr} {h : Nat} (C : GC G X RX5 cX5_runRound 4 (fr + 4) (lo + 98) mc ms) (hg : GrOk g) (hnr : g.nR ≤ nr) (hh : h < 4000) (hR : ruS g S) (kk : ∀ S' M1, Pic G ad nr S' M1 → Fr ad nr M M1 → eqW S S' → MI g h g.nR S' → GW G X 4 M1 0 0 50 [(0, .ref (ad 7 0)), (1, .int (nI (h + 1)))] []) : ∀ d r S1 M1, r + d = g.nR → Pic G ad nr S1 M1 → Fr ad nr M M1 → eqW S S1 → MI g h r S1 → GW G X 4 M1 0 0 2 [(0, .ref (ad 7 0)), (1, .int (nI (h + 1))), (2, .int (nI r))] [] := by
  have h10 := hg.1
  intro d
  induction d with
  | zero =>
    intro r S1 M1 hr P1 F1 W1 I1
    have e : r = g.nR := by omega
    subst e
    have e0 : S1.2.2 0 = nI g.nR := (hR.of W1 h10).1
    refine g_iload_n C dX5_runRound_2 rfl ?_
    refine g_aload_n C dX5_runRound_3 rfl ?_
    refine g_getf C fl_X5_21 dX5_runRound_4 P1.klc rfl ?_
    rw [e0]
    refine g_icmp_geN C dX5_runRound_7 (tgt := 50) (by decide) (by omega) (by omega) (fun hb => ?_) (fun hb => absurd hb (by omega))
    exact g_loc [0, 1] rfl (kk S1 M1 P1 F1 W1 I1)
  | succ d ih =>
    intro r S1 M1 hr P1 F1 W1 I1
    have R1 := hR.of W1 h10
    have e0 : S1.2.2 0 = nI g.nR := R1.1
    have hrn : r < g.nR := by omega
    have hrr : r < nr := by omega
    have I0 := R1.2 r hrn
    obtain ⟨i1, i2, -⟩ := R1.2 r hrn
    refine g_iload_n C dX5_runRound_2 rfl ?_
    refine g_aload_n C dX5_runRound_3 rfl ?_
    refine g_getf C fl_X5_21 dX5_runRound_4 P1.klc rfl ?_
    rw [e0]
    refine g_icmp_geN C dX5_runRound_7 (tgt := 50) (by decide) (by omega) (by omega) (fun hb => absurd hb (by omega)) (fun hb => ?_)
    refine g_aload_n C dX5_runRound_10 rfl ?_
    refine g_getf C fl_X5_17 dX5_runRound_11 P1.klc rfl ?_
    refine g_iload_n C dX5_runRound_14 rfl ?_
    refine g_aaldN C dX5_runRound_15 P1.krus rfl (by omega) (by decide) (krus_at (by omega)) ?_
    refine g_astore_n C dX5_runRound_16 (by decide) ?_
    refine g_aload_n C dX5_runRound_17 rfl ?_
    refine g_aload_n C dX5_runRound_18 rfl ?_
    refine g_getf C fl_X5_11 dX5_runRound_19 P1.klc rfl ?_
    refine g_iload_n C dX5_runRound_22 rfl ?_
    refine g_callV (ci := 3) C dX5_runRound_23 cw_X5_169 rfl (c_R_grow G ad nr S1 M1 P1 r _ _ _ _ (nI (h + 1)) hrr I0) (P1.kru hrr) rfl rfl (Nat.le_of_ble_eq_true rfl) (by omega) (by omega) (by omega) (by omega) (fun v M2 hq => ?_)
    obtain ⟨rfl, S2, P2, F2, g2⟩ := hq
    have W2 : eqW S1 S2 := g2.1.W (fun j hj => Or.inr (by unfold jR at hj; omega))
    have j1 : S2.2.2 (10 + r) = nI (g.lf r) := by rw [W2.2.2]; exact i1
    show GW G X 4 M2 0 0 26 _ []
    refine g_aload_n C dX5_runRound_26 rfl ?_
    refine g_getf C fl_X5_11 dX5_runRound_27 P2.klc rfl ?_
    refine g_aload_n C dX5_runRound_30 rfl ?_
    refine g_getf C fl_X5_173 dX5_runRound_31 (P2.kru hrr) rfl ?_
    rw [j1]
    refine g_aaldN C dX5_runRound_34 P2.knts rfl i2 (by decide) (knts_at i2) ?_
    refine g_aload_n C dX5_runRound_35 rfl ?_
    refine g_callV (ci := 3) C dX5_runRound_36 cw_X5_176 rfl (c_newestCounts G ad nr S2 M2 P2 r hrr) (P2.kru hrr) rfl rfl (Nat.le_of_ble_eq_true rfl) (by omega) (by omega) (by omega) (by omega) (fun v M3 hq => ?_)
    obtain ⟨rfl, rfl⟩ := hq
    show GW G X 4 M3 0 0 39 _ (.ref (ad 0 (16 + 10 * r)) :: .ref (ad 3 (g.lf r)) :: [])
    refine g_iload_n C dX5_runRound_39 rfl ?_
    refine g_iload_n C dX5_runRound_40 rfl ?_
    refine g_callV (ci := 2) C dX5_runRound_41 cw_X5_180 rfl (c_find G ad nr S2 M3 P2 (g.lf r) (16 + 10 * r) (nI r) (nI (h + 1)) i2 (by omega) (by omega)) (P2.knt i2) rfl rfl (Nat.le_of_ble_eq_true rfl) (by omega) (by omega) (by omega) (by omega) (fun v M4 hq => ?_)
    obtain ⟨rfl, S3, P3, F3, f3⟩ := hq
    show GW G X 4 M4 0 0 44 _ []
    refine g_inc1 C dX5_runRound_44 rfl (by decide) ?_
    refine g_goto C dX5_runRound_47 (tgt := 2) (by decide) ?_
    refine g_loc [0, 1, 2] rfl ?_
    exact ih (r + 1) S3 M4 (by omega) P3 ((F1.tr F2).tr F3) ((W1.tr W2).tr (f3.1.W (fun j hj => by simp at hj; omega))) (MI_step hg hh hrn I1 g2 f3)

set_option maxHeartbeats 4000000 in
set_option maxRecDepth 100000 in
theorem l_rr2 {G : fm_G} {ad : Nat → Nat → Nat} {nr : Nat} {S : Cs} {M : fm_M} {X : fm_X} {fr lo mc ms : Nat} {g : Gr} {h : Nat} (C : GC G X RX5 cX5_runRound 4 (fr + 4) (lo + 98) mc ms) (hg : GrOk g) (kk : ∀ b S' M1 ls, (b = true ↔ nwP g h 5) → fm_lk ls 2 = some (.int (bI b)) → Pic G ad nr S' M1 → Fr ad nr M M1 → eqW S S' → NI g h 5 S' → GW G X 4 M1 0 0 99 ls []) : ∀ d n b S1 M1, n + d = 5 → (b = true ↔ nwP g h n) → Pic G ad nr S1 M1 → Fr ad nr M M1 → eqW S S1 → NI g h n S1 → GW G X 4 M1 0 0 54 [(0, .ref (ad 7 0)), (1, .int (nI (h + 1))), (2, .int (bI b)), (3, .int (nI n))] [] := by
  intro d
  induction d with
  | zero =>
    intro n b S1 M1 hn hb0 P1 F1 W1 I1
    have e : n = 5 := by omega
    subst e
    refine g_iload_n C dX5_runRound_54 rfl ?_
    refine g_iconst C dX5_runRound_55 (v := nI 5) rfl ?_
    refine g_icmp_geN C dX5_runRound_56 (tgt := 99) (by decide) (by decide) (by decide) (fun hb => ?_) (fun hb => absurd hb (by omega))
    exact kk b S1 M1 _ hb0 rfl P1 F1 W1 I1
  | succ d ih =>
    intro n b S1 M1 hn hb0 P1 F1 W1 I1
    have hn5 : n < 5 := by omega
    refine g_iload_n C dX5_runRound_54 rfl ?_
    refine g_iconst C dX5_runRound_55 (v := nI 5) rfl ?_
    refine g_icmp_geN C dX5_runRound_56 (tgt := 99) (by decide) (by omega) (by decide) (fun hb => absurd hb (by omega)) (fun hb => ?_)
    refine g_aload_n C dX5_runRound_59 rfl ?_
    refine g_getf C fl_X5_11 dX5_runRound_60 P1.klc rfl ?_
    refine g_iload_n C dX5_runRound_63 rfl ?_
    refine g_aaldN C dX5_runRound_64 P1.knts rfl hn5 (by decide) (knts_at hn5) ?_
    refine g_callV (ci := 2) C dX5_runRound_65 cw_X5_184 rfl (c_endRound G ad nr S1 M1 P1 n hn5) (P1.knt hn5) rfl rfl (Nat.le_of_ble_eq_true rfl) (by omega) (by omega) (by omega) (by omega) (fun v M2 hq => ?_)
    obtain ⟨rfl, S2, P2, F2, x2, q2⟩ := hq
    have I2 := NI_step hg hn5 I1 x2 q2
    have W2 : eqW S1 S2 := x2.W (fun j hj => by cases hj)
    show GW G X 4 M2 0 0 68 _ []
    have fin : ∀ b', (b' = true ↔ nwP g h (n + 1)) → GW G X 4 M2 0 0 92 [(0, .ref (ad 7 0)), (1, .int (nI (h + 1))), (2, .int (bI b)), (3, .int (nI n))] [.int (bI b')] := by
      intro b' hb'
      refine g_istore_n C dX5_runRound_92 (by decide) ?_
      refine g_inc1 C dX5_runRound_93 rfl (by decide) ?_
      refine g_goto C dX5_runRound_96 (tgt := 54) (by decide) ?_
      exact ih (n + 1) b' S2 M2 (by omega) hb' P2 (F1.tr F2) (W1.tr W2) I2
    refine g_iload_n C dX5_runRound_68 rfl ?_
    refine g_if_ne C dX5_runRound_69 (tgt := 87) (by decide) (fun h0 => ?_) (fun h0 => ?_)
    · skip
      refine g_iconst C dX5_runRound_87 (v := nI 1) rfl ?_
      refine g_goto C dX5_runRound_88 (tgt := 92) (by decide) ?_
      refine fin true ⟨fun _ => ?_, fun _ => rfl⟩
      obtain ⟨n', c, z1, z2⟩ := hb0.mp (bI_n0.mp h0)
      exact ⟨n', c, by omega, z2⟩
    · have hl : 3 * n + 1 < 15 + 10 * nr := by omega
      refine g_aload_n C dX5_runRound_72 rfl ?_
      refine g_getf C fl_X5_11 dX5_runRound_73 P2.klc rfl ?_
      refine g_iload_n C dX5_runRound_76 rfl ?_
      refine g_aaldN C dX5_runRound_77 P2.knts rfl hn5 (by decide) (knts_at hn5) ?_
      refine g_getf C fl_X5_187 dX5_runRound_78 (P2.knt hn5) rfl ?_
      refine g_callV (ci := 0) C dX5_runRound_81 cw_X5_190 rfl (c_isEmpty G _ _ M2 _ (P2.kset hl) (P2.kpl hl)) (P2.kset hl) rfl rfl (Nat.le_of_ble_eq_true rfl) (by omega) (by omega) (by omega) (by omega) (fun v M3 hq => ?_)
      obtain ⟨rfl, rfl⟩ := hq
      show GW G X 4 _ 0 0 84 _ [.int (bI (empq (S2.1 (3 * n + 1))))]
      have hem : empq (S2.1 (3 * n + 1)) = true ↔ ∀ c, c < 512 → ¬ (Hh g (h + 1) n c ∧ ¬ Hh g h n c) := by
        rw [empq_iff]
        constructor
        · intro z c hc z2
          have := ((I2.1 n (Nat.lt_succ_self n)).1 c hc).2.mpr z2
          rw [z c hc] at this; cases this
        · intro z c hc
          cases hq : bq (S2.1 (3 * n + 1)) c with
          | false => rfl
          | true => exact absurd (((I2.1 n (Nat.lt_succ_self n)).1 c hc).2.mp hq) (z c hc)
      have hbf : b = false := bI_0.mp h0
      subst hbf
      have hs := nwP_s hb0 hem
      refine g_if_ne C dX5_runRound_84 (tgt := 91) (by decide) (fun h1 => ?_) (fun h1 => ?_)
      · rw [bI_n0.mp h1] at hs
        refine g_iconst C dX5_runRound_91 (v := nI 0) rfl ?_
        exact fin false hs
      · rw [bI_0.mp h1] at hs
        refine g_iconst C dX5_runRound_87 (v := nI 1) rfl ?_
        refine g_goto C dX5_runRound_88 (tgt := 92) (by decide) ?_
        exact fin true hs

set_option maxHeartbeats 4000000 in
set_option maxRecDepth 100000 in
theorem c_runRound (G : fm_G) (ad : Nat → Nat → Nat) (nr : Nat) (S : Cs) (M : fm_M) (Pi : Pic G ad nr S M) (g : Gr) (h : Nat) (hg : GrOk g) (hnr : g.nR ≤ nr) (hh : h < 4000) (hR : ruS g S) (hC : CI g h S) : fm_Ct G yX5_runRound cX5_runRound 4 (some .boolean) 4 98 0 0 [.ref (ad 7 0), .int (nI (h + 1))] M (fun v M1 => ∃ b S', v = some (.int (bI b)) ∧ (b = true ↔ nwP g h 5) ∧ Pic G ad nr S' M1 ∧ Fr ad nr M M1 ∧ eqW S S' ∧ CI g (h + 1) S') := by
  refine fm_head (by decide) (Nat.le_of_ble_eq_true rfl) rfl (fun X C N0 rt => ?_)
  refine g_iconst C dX5_runRound_0 (v := nI 0) rfl ?_
  refine g_istore_n C dX5_runRound_1 (by decide) ?_
  refine l_rr1 (fr := 0) (lo := 0) C hg hnr hh hR (fun S1 M1 P1 F1 W1 I1 => ?_) g.nR 0 S M (by omega) Pi Fr.rf eqY.rf (CI_MI hC)
  refine g_iconst C dX5_runRound_50 (v := nI 0) rfl ?_
  refine g_istore_n C dX5_runRound_51 (by decide) ?_
  refine g_iconst C dX5_runRound_52 (v := nI 0) rfl ?_
  refine g_istore_n C dX5_runRound_53 (by decide) ?_
  refine l_rr2 (fr := 0) (lo := 0) (S := S) (M := M) C hg (fun b S2 M2 ls hb hl P2 F2 W2 I2 => ?_) 5 0 false S1 M1 (by omega) ⟨fun z => absurd z Bool.false_ne_true, fun ⟨n, c, z, _⟩ => absurd z (Nat.not_lt_zero n)⟩ P1 F1 W1 (MI_NI I1)
  refine g_iload_n C dX5_runRound_99 hl ?_
  exact rt (some (.int (bI b))) M2 _ _ _ ls (fm_retZ (bI_01 b) dX5_runRound_100) ⟨b, S2, rfl, hb, P2, F2, W2, NI_CI I2⟩ (Nat.le_refl _) (Nat.le_refl _)

def fa (S : Cs) (m : Nat) : Prop := ∀ n, n < m → ∀ c, c < 512 → bq (S.1 (3 * n)) c = false ∧ bq (S.1 (3 * n + 1)) c = false ∧ bq (S.1 (3 * n + 2)) c = false ∧ S.2.1 n c = NEV
def fb (g : Gr) (S : Cs) (m : Nat) : Prop := ∀ r, r < m → ∀ i, i < g.sz r + 1 → ∀ c, c < 512 → bq (S.1 (15 + 10 * r + 2 * i)) c = false ∧ bq (S.1 (16 + 10 * r + 2 * i)) c = false ∧ S.2.1 (20 + 5 * r + i) c = NEV
theorem fa_s {S S' : Cs} {m : Nat} (h : fa S m) (hm : m < 5) (hX : eqX S S' [3 * m, 3 * m + 1, 3 * m + 2] [m]) (hq : ∀ c, c < 512 → bq (S'.1 (3 * m)) c = false ∧ bq (S'.1 (3 * m + 1)) c = false ∧ bq (S'.1 (3 * m + 2)) c = false ∧ S'.2.1 m c = NEV) : fa S' (m + 1) := by
  intro n hn c hc
  by_cases he : n = m
  · subst he; exact hq c hc
  · rw [hX.1 (3 * n) (by simp; omega), hX.1 (3 * n + 1) (by simp; omega), hX.1 (3 * n + 2) (by simp; omega), hX.2.1 n (by simp; omega)]
    exact h n (by omega) c hc
theorem fb_s {g : Gr} {S S' : Cs} {m : Nat} (hg : GrOk g) (hm : m < g.nR) (ha : fa S 5) (h : fb g S m) (hF : fgI S S' m (g.sz m + 1)) : fa S' 5 ∧ fb g S' (m + 1) := by
  obtain ⟨f1, f2⟩ := hF
  constructor
  · intro n hn c hc
    rw [f1.1 (3 * n) (by unfold kR; omega), f1.1 (3 * n + 1) (by unfold kR; omega), f1.1 (3 * n + 2) (by unfold kR; omega), f1.2.1 n (by unfold jR; omega)]
    exact ha n hn c hc
  · intro r hr i hi c hc
    have hsz := (hg.2 r (by omega)).2.1
    by_cases he : r = m
    · subst he; exact f2 i hi c hc
    · rw [f1.1 (15 + 10 * r + 2 * i) (by unfold kR; omega), f1.1 (16 + 10 * r + 2 * i) (by unfold kR; omega), f1.2.1 (20 + 5 * r + i) (by unfold jR; omega)]
      exact h r (by omega) i hi c hc
theorem CI_0 {g : Gr} {S : Cs} (ha : fa S 5) (hb : fb g S g.nR) : CI g 0 S := by
  refine ⟨fun n hn => ⟨fun c hc => ?_, fun c hc => ?_⟩, fun r hr i hi c hc => ?_⟩
  · obtain ⟨a1, a2, a3, a4⟩ := ha n hn c hc
    exact ⟨⟨fun z => absurd (a1.symm.trans z) Bool.false_ne_true, fun z => z.elim⟩, ⟨fun z => absurd (a2.symm.trans z) Bool.false_ne_true, fun z => z.1.elim⟩⟩
  · obtain ⟨a1, a2, a3, a4⟩ := ha n hn c hc
    exact ⟨a3, Or.inl ⟨fun z => z, a4⟩, fun j hj => absurd hj (Nat.not_lt_zero j)⟩
  · have := hb r hr i (by omega) c hc
    rw [show 15 + 10 * r + 2 * i = 15 + 2 * (5 * r + i) by omega, show 16 + 10 * r + 2 * i = 16 + 2 * (5 * r + i) by omega, show 20 + 5 * r + i = 20 + (5 * r + i) by omega] at this
    obtain ⟨a1, a2, a3⟩ := this
    exact ⟨⟨fun z => absurd (a1.symm.trans z) Bool.false_ne_true, fun z => z.elim⟩, ⟨fun z => absurd (a2.symm.trans z) Bool.false_ne_true, fun z => z.1.elim⟩, Or.inl ⟨fun z => z, a3⟩⟩
/-- the counts are worked out -/
def Dn (g : Gr) (S : Cs) : Prop := ∃ h, h < 3000 ∧ CI g h S ∧ ∀ n c, Hh g (h + 1) n c → Hh g h n c

set_option maxHeartbeats 4000000 in
set_option maxRecDepth 100000 in
theorem l_wo1 {G : fm_G} {ad : Nat → Nat → Nat} {nr : Nat} {S : Cs} {M : fm_M} {X : fm_X} {fr lo mc ms : Nat} (C : GC G X RX5 cX5_workOut 3 (fr + 5) (lo + 121) mc ms) (kk : ∀ S' M1, Pic G ad nr S' M1 → Fr ad nr M M1 → eqW S S' → fa S' 5 → GW G X 3 M1 0 0 30 [(0, .ref (ad 7 0))] []) : ∀ d n S1 M1, n + d = 5 → Pic G ad nr S1 M1 → Fr ad nr M M1 → eqW S S1 → fa S1 n → GW G X 3 M1 0 0 10 [(0, .ref (ad 7 0)), (1, .int (nI n))] [] := by
  intro d
  induction d with
  | zero =>
    intro n S1 M1 hn P1 F1 W1 I1
    have e : n = 5 := by omega
    subst e
    refine g_iload_n C dX5_workOut_10 rfl ?_
    refine g_iconst C dX5_workOut_11 (v := nI 5) rfl ?_
    refine g_icmp_geN C dX5_workOut_12 (tgt := 30) (by decide) (by decide) (by decide) (fun hb => ?_) (fun hb => absurd hb (by omega))
    exact g_loc [0] rfl (kk S1 M1 P1 F1 W1 I1)
  | succ d ih =>
    intro n S1 M1 hn P1 F1 W1 I1
    have hn5 : n < 5 := by omega
    refine g_iload_n C dX5_workOut_10 rfl ?_
    refine g_iconst C dX5_workOut_11 (v := nI 5) rfl ?_
    refine g_icmp_geN C dX5_workOut_12 (tgt := 30) (by decide) (by omega) (by decide) (fun hb => absurd hb (by omega)) (fun hb => ?_)
    refine g_aload_n C dX5_workOut_15 rfl ?_
    refine g_getf C fl_X5_11 dX5_workOut_16 P1.klc rfl ?_
    refine g_iload_n C dX5_workOut_19 rfl ?_
    refine g_aaldN C dX5_workOut_20 P1.knts rfl hn5 (by decide) (knts_at hn5) ?_
    refine g_callV (ci := 2) C dX5_workOut_21 cw_X5_162 rfl (c_NT_forget G ad nr S1 M1 P1 n hn5) (P1.knt hn5) rfl rfl (Nat.le_of_ble_eq_true rfl) (by omega) (by omega) (by omega) (by omega) (fun v M2 hq => ?_)
    obtain ⟨rfl, S2, P2, F2, x2, q2⟩ := hq
    show GW G X 3 M2 0 0 24 _ []
    refine g_inc1 C dX5_workOut_24 rfl (by decide) ?_
    refine g_goto C dX5_workOut_27 (tgt := 10) (by decide) ?_
    exact ih (n + 1) S2 M2 (by omega) P2 (F1.tr F2) (W1.tr (x2.W (fun j hj => by simp at hj; omega))) (fa_s I1 hn5 x2 q2)

set_option maxHeartbeats 4000000 in
set_option maxRecDepth 100000 in
theorem l_wo2 {G : fm_G} {ad : Nat → Nat → Nat} {nr : Nat} {S : Cs} {M : fm_M} {X : fm_X} {fr lo mc ms : Nat} {g : Gr} (C : GC G X RX5 cX5_workOut 3 (fr + 5) (lo + 121) mc ms) (hg : GrOk g) (hnr : g.nR ≤ nr) (hR : ruS g S) (kk : ∀ S' M1, Pic G ad nr S' M1 → Fr ad nr M M1 → eqW S S' → CI g 0 S' → GW G X 3 M1 0 0 55 [(0, .ref (ad 7 0))] []) : ∀ d r S1 M1, r + d = g.nR → Pic G ad nr S1 M1 → Fr ad nr M M1 → eqW S S1 → fa S1 5 → fb g S1 r → GW G X 3 M1 0 0 32 [(0, .ref (ad 7 0)), (1, .int (nI r))] [] := by
  have h10 := hg.1
  intro d
  induction d with
  | zero =>
    intro r S1 M1 hr P1 F1 W1 I1 J1
    have e : r = g.nR := by omega
    subst e
    have e0 : S1.2.2 0 = nI g.nR := (hR.of W1 h10).1
    refine g_iload_n C dX5_workOut_32 rfl ?_
    refine g_aload_n C dX5_workOut_33 rfl ?_
    refine g_getf C fl_X5_21 dX5_workOut_34 P1.klc rfl ?_
    rw [e0]
    refine g_icmp_geN C dX5_workOut_37 (tgt := 55) (by decide) (by omega) (by omega) (fun hb => ?_) (fun hb => absurd hb (by omega))
    exact g_loc [0] rfl (kk S1 M1 P1 F1 W1 (CI_0 I1 J1))
  | succ d ih =>
    intro r S1 M1 hr P1 F1 W1 I1 J1
    have R1 := hR.of W1 h10
    have e0 : S1.2.2 0 = nI g.nR := R1.1
    have hrn : r < g.nR := by omega
    have hrr : r < nr := by omega
    refine g_iload_n C dX5_workOut_32 rfl ?_
    refine g_aload_n C dX5_workOut_33 rfl ?_
    refine g_getf C fl_X5_21 dX5_workOut_34 P1.klc rfl ?_
    rw [e0]
    refine g_icmp_geN C dX5_workOut_37 (tgt := 55) (by decide) (by omega) (by omega) (fun hb => absurd hb (by omega)) (fun hb => ?_)
    refine g_aload_n C dX5_workOut_40 rfl ?_
    refine g_getf C fl_X5_17 dX5_workOut_41 P1.klc rfl ?_
    refine g_iload_n C dX5_workOut_44 rfl ?_
    refine g_aaldN C dX5_workOut_45 P1.krus rfl (by omega) (by decide) (krus_at (by omega)) ?_
    refine g_callV (ci := 3) C dX5_workOut_46 cw_X5_165 rfl (c_R_forget G ad nr S1 M1 P1 r _ _ _ _ hrr (R1.2 r hrn)) (P1.kru hrr) rfl rfl (Nat.le_of_ble_eq_true rfl) (by omega) (by omega) (by omega) (by omega) (fun v M2 hq => ?_)
    obtain ⟨rfl, S2, P2, F2, x2⟩ := hq
    show GW G X 3 M2 0 0 49 _ []
    obtain ⟨a2, b2⟩ := fb_s hg hrn I1 J1 x2
    refine g_inc1 C dX5_workOut_49 rfl (by decide) ?_
    refine g_goto C dX5_workOut_52 (tgt := 32) (by decide) ?_
    exact ih (r + 1) S2 M2 (by omega) P2 (F1.tr F2) (W1.tr (x2.1.W (fun j hj => Or.inr (by unfold jR at hj; omega)))) a2 b2

set_option maxHeartbeats 4000000 in
set_option maxRecDepth 100000 in
theorem l_wo3 {G : fm_G} {ad : Nat → Nat → Nat} {nr : Nat} {S : Cs} {M : fm_M} {X : fm_X} {fr lo mc ms : Nat} {g : Gr} (C : GC G X RX5 cX5_workOut 3 (fr + 5) (lo + 121) mc ms) (hg : GrOk g) (hnr : g.nR ≤ nr) (hR : ruS g S) (kk : ∀ S' M1, Pic G ad nr S' M1 → Fr ad nr M M1 → eqW S S' → Dn g S' → GW G X 3 M1 0 0 82 [(0, .ref (ad 7 0))] []) : ∀ d h b S1 M1, h + d = 2561 → Pic G ad nr S1 M1 → Fr ad nr M M1 → eqW S S1 → CI g h S1 → (b = true → ∀ j, j < h → ∃ n c, Hh g (j + 1) n c ∧ ¬ Hh g j n c) → (b = false → ∀ n c, Hh g (h + 1) n c → Hh g h n c) → GW G X 3 M1 0 0 59 [(0, .ref (ad 7 0)), (1, .int (bI b)), (2, .int (nI (h + 1)))] [] := by
  have h10 := hg.1
  intro d
  induction d with
  | zero =>
    intro h b S1 M1 hd P1 F1 W1 I1 b1 b2
    have e : h = 2561 := by omega
    subst e
    have hbf : b = false := by
      cases b with
      | false => rfl
      | true => exact absurd (Hh_short hg (b1 rfl)) (by omega)
    refine g_iload_n C dX5_workOut_59 rfl ?_
    refine g_sipush C dX5_workOut_60 (v := nI 2561) rfl ?_
    refine g_icmp_gtN C dX5_workOut_63 (tgt := 82) (by decide) (by decide) (by decide) (fun hb => ?_) (fun hb => absurd hb (by omega))
    exact g_loc [0] rfl (kk S1 M1 P1 F1 W1 ⟨2561, by decide, I1, b2 hbf⟩)
  | succ d ih =>
    intro h b S1 M1 hd P1 F1 W1 I1 b1 b2
    refine g_iload_n C dX5_workOut_59 rfl ?_
    refine g_sipush C dX5_workOut_60 (v := nI 2561) rfl ?_
    refine g_icmp_gtN C dX5_workOut_63 (tgt := 82) (by decide) (by omega) (by decide) (fun hb => absurd hb (by omega)) (fun hb => ?_)
    refine g_iload_n C dX5_workOut_66 rfl ?_
    refine g_if_eq C dX5_workOut_67 (tgt := 82) (by decide) (fun h0 => ?_) (fun h0 => ?_)
    · exact g_loc [0] rfl (kk S1 M1 P1 F1 W1 ⟨h, by omega, I1, b2 (bI_0.mp h0)⟩)
    · skip
      refine g_aload_n C dX5_workOut_70 rfl ?_
      refine g_iload_n C dX5_workOut_71 rfl ?_
      refine g_callV (ci := 5) C dX5_workOut_72 cw_X5_166 rfl (c_runRound G ad nr S1 M1 P1 g h hg hnr (by omega) (hR.of W1 h10) I1) P1.klc rfl rfl (Nat.le_of_ble_eq_true rfl) (by omega) (by omega) (by omega) (by omega) (fun v M2 hq => ?_)
      obtain ⟨b', S2, rfl, hb', P2, F2, W2, I2⟩ := hq
      show GW G X 3 M2 0 0 75 _ [.int (bI b')]
      refine g_istore_n C dX5_workOut_75 (by decide) ?_
      refine g_inc1 C dX5_workOut_76 rfl (by decide) ?_
      refine g_goto C dX5_workOut_79 (tgt := 59) (by decide) ?_
      refine ih (h + 1) b' S2 M2 (by omega) P2 (F1.tr F2) (W1.tr W2) I2 (fun hb1 j hj => ?_) (fun hb1 n c z => ?_)
      · by_cases hjh : j = h
        · subst hjh
          obtain ⟨n, c, -, -, z⟩ := hb'.mp hb1
          exact ⟨n, c, z⟩
        · exact b1 (bI_n0.mp h0) j (by omega)
      · have hst : ∀ n c, Hh g (h + 1) n c → Hh g h n c := by
          intro n c z
          obtain ⟨z1, z2⟩ := Hh_lt hg z
          by_cases hz : Hh g h n c
          · exact hz
          · have := hb'.mpr ⟨n, c, z1, z2, z, hz⟩
            rw [hb1] at this; cases this
        exact Hh_mono1 g h n c (Hh_stop hst (h + 1 + 1) (by omega) n c z)

set_option maxHeartbeats 4000000 in
set_option maxRecDepth 100000 in
theorem c_workOut_0 (G : fm_G) (ad : Nat → Nat → Nat) (nr : Nat) (S : Cs) (M : fm_M) (Pi : Pic G ad nr S M) (hs : S.2.2 1 = 0) : fm_Ct G yX5_workOut cX5_workOut 3 none 5 121 0 0 [.ref (ad 7 0)] M (fun v M1 => v = none ∧ M1 = M) := by
  refine fm_head (by decide) (Nat.le_of_ble_eq_true rfl) rfl (fun X C N0 rt => ?_)
  refine g_aload_n C dX5_workOut_0 rfl ?_
  refine g_getf C fl_X5_25 dX5_workOut_1 Pi.klc rfl ?_
  rw [hs]
  refine g_if_ne C dX5_workOut_4 (tgt := 8) (by decide) (fun h0 => absurd rfl h0) (fun h0 => ?_)
  exact rt none M _ _ _ _ (fm_retV dX5_workOut_7) ⟨rfl, rfl⟩ (Nat.le_refl _) (Nat.le_refl _)

set_option maxHeartbeats 4000000 in
set_option maxRecDepth 100000 in
theorem c_workOut_1 (G : fm_G) (ad : Nat → Nat → Nat) (nr : Nat) (S : Cs) (M : fm_M) (Pi : Pic G ad nr S M) (g : Gr) (hg : GrOk g) (hnr : g.nR ≤ nr) (hR : ruS g S) (hs : S.2.2 1 = 1) : fm_Ct G yX5_workOut cX5_workOut 3 none 5 121 0 0 [.ref (ad 7 0)] M (fun v M1 => v = none ∧ ∃ S', Pic G ad nr (S'.1, S'.2.1, va_up S'.2.2 1 0) M1 ∧ Fr ad nr M M1 ∧ eqW S S' ∧ Dn g S') := by
  refine fm_head (by decide) (Nat.le_of_ble_eq_true rfl) rfl (fun X C N0 rt => ?_)
  refine g_aload_n C dX5_workOut_0 rfl ?_
  refine g_getf C fl_X5_25 dX5_workOut_1 Pi.klc rfl ?_
  rw [hs]
  refine g_if_ne C dX5_workOut_4 (tgt := 8) (by decide) (fun h0 => ?_) (fun h0 => absurd h0 (by decide))
  refine g_iconst C dX5_workOut_8 (v := nI 0) rfl ?_
  refine g_istore_n C dX5_workOut_9 (by decide) ?_
  refine l_wo1 (fr := 0) (lo := 0) (S := S) (M := M) C (fun S1 M1 P1 F1 W1 I1 => ?_) 5 0 S M (by omega) Pi Fr.rf eqY.rf (fun n hn => absurd hn (Nat.not_lt_zero n))
  refine g_iconst C dX5_workOut_30 (v := nI 0) rfl ?_
  refine g_istore_n C dX5_workOut_31 (by decide) ?_
  refine l_wo2 (fr := 0) (lo := 0) (S := S) (M := M) C hg hnr hR (fun S2 M2 P2 F2 W2 I2 => ?_) g.nR 0 S1 M1 (by omega) P1 F1 W1 I1 (fun r hr => absurd hr (Nat.not_lt_zero r))
  refine g_iconst C dX5_workOut_55 (v := nI 1) rfl ?_
  refine g_istore_n C dX5_workOut_56 (by decide) ?_
  refine g_iconst C dX5_workOut_57 (v := nI 1) rfl ?_
  refine g_istore_n C dX5_workOut_58 (by decide) ?_
  refine l_wo3 (fr := 0) (lo := 0) (S := S) (M := M) C hg hnr hR (fun S3 M3 P3 F3 W3 I3 => ?_) 2561 0 true S2 M2 (by omega) P2 F2 W2 I2 (fun _ j hj => absurd hj (Nat.not_lt_zero j)) (fun z => by cases z)
  refine g_aload_n C dX5_workOut_82 rfl ?_
  refine g_iconst C dX5_workOut_83 (v := nI 0) rfl ?_
  refine g_putf C fl_X5_25 rfl dX5_workOut_84 P3.klc rfl rfl (Nat.le_of_ble_eq_true rfl) ?_
  exact rt none _ _ _ _ _ (fm_retV dX5_workOut_87) ⟨rfl, S3, P3.lc (i := 1) (by decide) 0 rfl, F3.st (t := 7) (k := 0) rfl, W3, I3⟩ (Nat.le_refl _) (Nat.le_refl _)
