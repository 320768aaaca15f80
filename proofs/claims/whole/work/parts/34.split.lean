/-! Rule.canBegin, split; Walk.openTree, openBelow -/
theorem an7 : ∀ n, n < 512 → nI n &&& nI 7 = nI (n % 8) := by decide +kernel
theorem an56 : ∀ n, n < 512 → nI n &&& nI 56 = nI (n / 8 % 8 * 8) := by decide +kernel
theorem an448 : ∀ n, n < 512 → nI n &&& nI 448 = nI (n / 64 * 64) := by decide +kernel
theorem lenA_e {e : Nat} (h : e < 50) : lenA (20 + e) = 512 := by
  unfold lenA
  rw [if_neg (by omega), if_neg (by omega), if_pos (by omega)]

set_option maxHeartbeats 4000000 in
set_option maxRecDepth 100000 in
theorem c_canBegin (G : fm_G) (ad : Nat → Nat → Nat) (nr : Nat) (S : Cs) (M : fm_M) (Pi : Pic G ad nr S M) (n e x y : Nat) (hv : Int32) (hn : n < 5) (he : e < 5 * nr) (hxy : x ≤ y) (hy : y < 512) : fm_Ct G yX3_canBegin cX3_canBegin 5 (some .boolean) 0 0 0 0 [.int (nI x), .int (nI y), .ref (ad 3 n), .ref (ad 6 e), .int hv] M (fun v M1 => M1 = M ∧ ∃ b, v = some (.int (bI b)) ∧ (b = true ↔ (S.2.1 n x < hv ∧ okc x (y - x) = true ∧ S.2.1 (20 + e) (y - x) ≤ hv))) := by
  have h10 := Pi.1
  have hok := okc_le hxy hy
  have l1 : liv nr 2 n := Or.inl (by omega)
  have l2 : liv nr 2 (20 + e) := Or.inr (Or.inr (Or.inl ⟨by omega, by omega⟩))
  have hno : ∀ (X : fm_X), GC G X RX3 cX3_canBegin 5 0 0 0 0 → ¬ (S.2.1 n x < hv ∧ okc x (y - x) = true ∧ S.2.1 (20 + e) (y - x) ≤ hv) → (∀ (v : Option Value) (M1 : fm_M) (k n' pc : Nat) (ls : List (Nat × Value)), fm_ret cX3_canBegin pc (some .boolean) v → (M1 = M ∧ ∃ b, v = some (.int (bI b)) ∧ (b = true ↔ (S.2.1 n x < hv ∧ okc x (y - x) = true ∧ S.2.1 (20 + e) (y - x) ≤ hv))) → k ≤ 0 → n' ≤ 0 → GW G X 5 M1 k n' pc ls v.toList) → ∀ ls, GW G X 5 M 0 0 63 ls [] := by
    intro X C hne rt ls
    refine g_iconst C dX3_canBegin_63 (v := nI 0) rfl ?_
    exact rt (some (.int (bI false))) M _ _ _ ls (fm_retZ (bI_01 false) dX3_canBegin_64) ⟨rfl, false, rfl, fun z => absurd z Bool.false_ne_true, fun z => absurd z hne⟩ (Nat.le_refl _) (Nat.le_refl _)
  refine fm_head (by decide) (Nat.le_of_ble_eq_true rfl) rfl (fun X C N0 rt => ?_)
  refine g_aload_n C dX3_canBegin_0 rfl ?_
  refine g_getf C fl_X3_54 dX3_canBegin_1 (Pi.knt hn) rfl ?_
  refine g_iload_n C dX3_canBegin_4 rfl ?_
  refine g_ialdN C dX3_canBegin_5 (Pi.kar l1 (lenA_h (by omega))) (by omega) (by decide) ?_
  refine g_iload C dX3_canBegin_6 rfl ?_
  refine g_icmp_ge C dX3_canBegin_8 (tgt := 63) (by decide) (fun h0 => hno X C (fun z => Int32.lt_irrefl (Int32.lt_of_lt_of_le z.1 h0)) rt _) (fun h0 => ?_)
  refine g_iload_n C dX3_canBegin_11 rfl ?_
  refine g_bipush C dX3_canBegin_12 (v := nI 7) rfl ?_
  refine g_iand C dX3_canBegin_14 ?_
  refine g_topI (an7 x (by omega)) ?_
  refine g_iload_n C dX3_canBegin_15 rfl ?_
  refine g_bipush C dX3_canBegin_16 (v := nI 7) rfl ?_
  refine g_iand C dX3_canBegin_18 ?_
  refine g_topI (an7 y hy) ?_
  refine g_icmp_gtN C dX3_canBegin_19 (tgt := 63) (by decide) (by omega) (by omega) (fun h1 => hno X C (fun z => by have := hok.mp z.2.1; omega) rt _) (fun h1 => ?_)
  refine g_iload_n C dX3_canBegin_22 rfl ?_
  refine g_bipush C dX3_canBegin_23 (v := nI 56) rfl ?_
  refine g_iand C dX3_canBegin_25 ?_
  refine g_topI (an56 x (by omega)) ?_
  refine g_iload_n C dX3_canBegin_26 rfl ?_
  refine g_bipush C dX3_canBegin_27 (v := nI 56) rfl ?_
  refine g_iand C dX3_canBegin_29 ?_
  refine g_topI (an56 y hy) ?_
  refine g_icmp_gtN C dX3_canBegin_30 (tgt := 63) (by decide) (by omega) (by omega) (fun h2 => hno X C (fun z => by have := hok.mp z.2.1; omega) rt _) (fun h2 => ?_)
  refine g_iload_n C dX3_canBegin_33 rfl ?_
  refine g_sipush C dX3_canBegin_34 (v := nI 448) rfl ?_
  refine g_iand C dX3_canBegin_37 ?_
  refine g_topI (an448 x (by omega)) ?_
  refine g_iload_n C dX3_canBegin_38 rfl ?_
  refine g_sipush C dX3_canBegin_39 (v := nI 448) rfl ?_
  refine g_iand C dX3_canBegin_42 ?_
  refine g_topI (an448 y hy) ?_
  refine g_icmp_gtN C dX3_canBegin_43 (tgt := 63) (by decide) (by omega) (by omega) (fun h3 => hno X C (fun z => by have := hok.mp z.2.1; omega) rt _) (fun h3 => ?_)
  refine g_aload_n C dX3_canBegin_46 rfl ?_
  refine g_getf C fl_X3_59 dX3_canBegin_47 (Pi.kend he) rfl ?_
  refine g_iload_n C dX3_canBegin_50 rfl ?_
  refine g_iload_n C dX3_canBegin_51 rfl ?_
  refine g_isub C dX3_canBegin_52 ?_
  refine g_topI (pk_sub hxy) ?_
  refine g_ialdN C dX3_canBegin_53 (Pi.kar l2 (lenA_e (by omega))) (by omega) (by decide) ?_
  refine g_iload C dX3_canBegin_54 rfl ?_
  refine g_icmp_gt C dX3_canBegin_56 (tgt := 63) (by decide) (fun h4 => hno X C (fun z => Int32.lt_irrefl (Int32.lt_of_lt_of_le h4 z.2.2)) rt _) (fun h4 => ?_)
  refine g_iconst C dX3_canBegin_59 (v := nI 1) rfl ?_
  refine g_goto C dX3_canBegin_60 (tgt := 64) (by decide) ?_
  exact rt (some (.int (bI true))) M _ _ _ _ (fm_retZ (bI_01 true) dX3_canBegin_64) ⟨rfl, true, rfl, fun _ => ⟨Int32.not_le.mp h0, hok.mpr ⟨h1, h2, h3⟩, Int32.not_lt.mp h4⟩, fun _ => rfl⟩ (Nat.le_refl _) (Nat.le_refl _)

/-- what a worked-out object says of a part and the end behind it -/
def wkI (g : Gr) (S : Cs) : Prop := ∃ H, H < 4000 ∧ CI g H S ∧ ∀ k, H ≤ k → ∀ n c, Hh g k n c → Hh g H n c
theorem Dn.wk {g : Gr} {S : Cs} (h : Dn g S) : wkI g S := by
  obtain ⟨h, h1, h2, h3⟩ := h
  exact ⟨h, by omega, h2, Hh_stop h3⟩
theorem wk_cP {g : Gr} {S : Cs} (hg : GrOk g) (hw : wkI g S) {r i h y x n0 c0 : Nat} (hr : r < g.nR) (hi : i < g.sz r) (hh : h = hgt g n0 c0) (hT : Tr g n0 c0) (hxy : x ≤ y) (hy : y < 512) : (S.2.1 (g.pt r i) x < nI h ∧ okc x (y - x) = true ∧ S.2.1 (20 + (5 * r + (i + 1))) (y - x) ≤ nI h) ↔ cP g r h i y x := by
  obtain ⟨H, h1, h2, h3⟩ := hw
  obtain ⟨k, hk⟩ := hT
  have hkH : Hh g H n0 c0 := by
    by_cases hz : H ≤ k
    · exact h3 k hz _ _ hk
    · exact Hh_mono g (by omega) hk
  obtain ⟨j, j1, j2, j3⟩ := hgt_s hkH
  have hle : h ≤ H := by rw [hh]; exact hgt_le hkH
  have hpt := (hg.2 r hr).2.2.2 i hi
  have q1 := LT_lt h1 (show h < H + 1 by omega) (fun j k hjk z => Hh_mono g hjk z) (((h2.1 _ hpt).2 x (by omega)).2.1) (by omega)
  have q2 := LT_le h1 (show h < H + 1 by omega) (fun j k hjk z => EH_mono g r (i + 1) hjk z) ((h2.2 r hr (i + 1) (by omega) (y - x) (by omega)).2.2)
  rw [q1, q2]
  unfold cP
  constructor
  · rintro ⟨z1, z2, z3⟩; exact ⟨hxy, z2, z1, z3⟩
  · rintro ⟨_, z2, z1, z3⟩; exact ⟨z1, z2, z3⟩

set_option maxHeartbeats 4000000 in
set_option maxRecDepth 100000 in
theorem l_split_in {G : fm_G} {ad : Nat → Nat → Nat} {nr : Nat} {S : Cs} {M : fm_M} {X : fm_X} {fr lo mc ms : Nat} {g : Gr} {r h c i n0 : Nat} (C : GC G X RX3 cX3_split 9 (fr + 1) (lo + 24) mc ms) (Pi : Pic G ad nr S M) (hg : GrOk g) (hnr : g.nR ≤ nr) (hw : wkI g S) (hr : r < g.nR) (hi : i < g.sz r) (hh : h = hgt g n0 c) (hT : Tr g n0 c) (hE : EH g r 0 h c) (kk : GW G X 9 M 0 0 64 ([(0, .ref (ad 4 r)), (1, .ref (ad 8 0)), (2, .int (nI c)), (3, .int (nI h)), (4, .ref (ad 2 75)), (5, .int (nI (rst g r h c i))), (6, .int (nI i)), (7, .ref (ad 3 (g.pt r i))), (8, .int (nI (chl g r h c i)))]) []) : ∀ d x, x + d = chl g r h c i → GW G X 9 M 0 0 29 ([(0, .ref (ad 4 r)), (1, .ref (ad 8 0)), (2, .int (nI c)), (3, .int (nI h)), (4, .ref (ad 2 75)), (5, .int (nI (rst g r h c i))), (6, .int (nI i)), (7, .ref (ad 3 (g.pt r i))), (8, .int (nI x))]) [] := by
  have h10 := hg.1
  obtain ⟨ch1, ch2⟩ := chl_at hE hi
  have hy := EH_lt hg hr (rst_EH hE i (by omega))
  have hsz := (hg.2 r hr).2.1
  have hpt := (hg.2 r hr).2.2.2 i hi
  have hrr : r < nr := by omega
  have hle := ch1.1
  intro d
  induction d with
  | zero =>
    intro x hx
    have e : x = chl g r h c i := by omega
    subst e
    refine g_iload C dX3_split_29 rfl ?_
    refine g_iload C dX3_split_31 rfl ?_
    refine g_icmp_geN C dX3_split_33 (tgt := 64) (by decide) (by omega) (by omega) (fun hb => kk) (fun hb => ?_)
    refine g_iload C dX3_split_36 rfl ?_
    refine g_iload C dX3_split_38 rfl ?_
    refine g_aload C dX3_split_40 rfl ?_
    refine g_aload_n C dX3_split_42 rfl ?_
    refine g_getf C fl_X3_30 dX3_split_43 (Pi.kru hrr) rfl ?_
    refine g_iload C dX3_split_46 rfl ?_
    refine g_iconst C dX3_split_48 (v := nI 1) rfl ?_
    refine g_iadd C dX3_split_49 ?_
    refine g_topI (nI_add i 1) ?_
    refine g_aaldN C dX3_split_50 (Pi.kends hrr) rfl (by omega) (by decide) (kends_at (by omega)) ?_
    refine g_iload_n C dX3_split_51 rfl ?_
    refine g_callS C dX3_split_52 cw_X3_50 (c_canBegin G ad nr S M Pi (g.pt r i) (5 * r + (i + 1)) (chl g r h c i) (rst g r h c i) (nI h) hpt (by omega) hle hy) rfl rfl (Nat.le_of_ble_eq_true rfl) (by omega) (by omega) (by omega) (by omega) (fun v M2 hq => ?_)
    obtain ⟨rfl, b, rfl, hb2⟩ := hq
    show GW G X 9 _ 0 0 55 _ [.int (bI b)]
    refine g_if_ne C dX3_split_55 (tgt := 64) (by decide) (fun h0 => kk) (fun h0 => ?_)
    have := hb2.mpr ((wk_cP hg hw hr hi hh hT hle hy).mpr ch1)
    rw [this] at h0
    exact absurd h0 (by decide)
  | succ d ih =>
    intro x hx
    refine g_iload C dX3_split_29 rfl ?_
    refine g_iload C dX3_split_31 rfl ?_
    refine g_icmp_geN C dX3_split_33 (tgt := 64) (by decide) (by omega) (by omega) (fun hb => absurd hb (by omega)) (fun hb => ?_)
    refine g_iload C dX3_split_36 rfl ?_
    refine g_iload C dX3_split_38 rfl ?_
    refine g_aload C dX3_split_40 rfl ?_
    refine g_aload_n C dX3_split_42 rfl ?_
    refine g_getf C fl_X3_30 dX3_split_43 (Pi.kru hrr) rfl ?_
    refine g_iload C dX3_split_46 rfl ?_
    refine g_iconst C dX3_split_48 (v := nI 1) rfl ?_
    refine g_iadd C dX3_split_49 ?_
    refine g_topI (nI_add i 1) ?_
    refine g_aaldN C dX3_split_50 (Pi.kends hrr) rfl (by omega) (by decide) (kends_at (by omega)) ?_
    refine g_iload_n C dX3_split_51 rfl ?_
    refine g_callS C dX3_split_52 cw_X3_50 (c_canBegin G ad nr S M Pi (g.pt r i) (5 * r + (i + 1)) x (rst g r h c i) (nI h) hpt (by omega) (by omega) hy) rfl rfl (Nat.le_of_ble_eq_true rfl) (by omega) (by omega) (by omega) (by omega) (fun v M2 hq => ?_)
    obtain ⟨rfl, b, rfl, hb2⟩ := hq
    show GW G X 9 _ 0 0 55 _ [.int (bI b)]
    refine g_if_ne C dX3_split_55 (tgt := 64) (by decide) (fun h0 => ?_) (fun h0 => ?_)
    · exact absurd ((wk_cP hg hw hr hi hh hT (by omega) hy).mp (hb2.mp (bI_n0.mp h0))) (ch2 x (by omega))
    · skip
      refine g_inc1 C dX3_split_58 rfl (by decide) ?_
      refine g_goto C dX3_split_61 (tgt := 29) (by decide) ?_
      exact ih (x + 1) (by omega)

set_option maxHeartbeats 4000000 in
set_option maxRecDepth 100000 in
theorem l_split {G : fm_G} {ad : Nat → Nat → Nat} {nr : Nat} {S : Cs} {M : fm_M} {X : fm_X} {fr lo mc ms : Nat} {g : Gr} {r h c n0 : Nat} (C : GC G X RX3 cX3_split 9 (fr + 1) (lo + 24) mc ms) (hg : GrOk g) (hnr : g.nR ≤ nr) (hr : r < g.nR) (hh : h = hgt g n0 c) (hT : Tr g n0 c) (hE : EH g r 0 h c) (kk : ∀ S' M1 ls, Pic G ad nr S' M1 → Fr ad nr M M1 → eqX S S' [] [75] → (∀ j, j < g.sz r → S'.2.1 75 j = nI (chl g r h c j)) → GW G X 9 M1 0 0 84 ls []) : ∀ d i S1 M1, i + d = g.sz r → Pic G ad nr S1 M1 → Fr ad nr M M1 → eqX S S1 [] [75] → ruS g S1 → wkI g S1 → (∀ j, j < i → S1.2.1 75 j = nI (chl g r h c j)) → GW G X 9 M1 0 0 6 ([(0, .ref (ad 4 r)), (1, .ref (ad 8 0)), (2, .int (nI c)), (3, .int (nI h)), (4, .ref (ad 2 75)), (5, .int (nI (rst g r h c i))), (6, .int (nI i))]) [] := by
  have h10 := hg.1
  have hsz := (hg.2 r hr).2.1
  have hrr : r < nr := by omega
  intro d
  induction d with
  | zero =>
    intro i S1 M1 hi P1 F1 W1 R1 w1 I1
    have e : i = g.sz r := by omega
    subst e
    obtain ⟨i1, i2, i3, i4, i5, i6, i7⟩ := R1.2 r hr
    refine g_iload C dX3_split_6 rfl ?_
    refine g_aload_n C dX3_split_8 rfl ?_
    refine g_getf C fl_X3_21 dX3_split_9 (P1.kru hrr) rfl ?_
    rw [i5]
    refine g_icmp_geN C dX3_split_12 (tgt := 84) (by decide) (by omega) (by omega) (fun hb => kk S1 M1 _ P1 F1 W1 I1) (fun hb => absurd hb (by omega))
  | succ d ih =>
    intro i S1 M1 hi P1 F1 W1 R1 w1 I1
    obtain ⟨i1, i2, i3, i4, i5, i6, i7⟩ := R1.2 r hr
    have his : i < g.sz r := by omega
    obtain ⟨p1, p2⟩ := i7 i his
    have ch1 := (chl_at hE his).1
    have l75 : liv nr 2 75 := Or.inr (Or.inr (Or.inr (by omega)))
    have lp : liv nr 2 (10 + r) := Or.inr (Or.inl ⟨by omega, by omega⟩)
    refine g_iload C dX3_split_6 rfl ?_
    refine g_aload_n C dX3_split_8 rfl ?_
    refine g_getf C fl_X3_21 dX3_split_9 (P1.kru hrr) rfl ?_
    rw [i5]
    refine g_icmp_geN C dX3_split_12 (tgt := 84) (by decide) (by omega) (by omega) (fun hb => absurd hb (by omega)) (fun hb => ?_)
    refine g_aload_n C dX3_split_15 rfl ?_
    refine g_aload_n C dX3_split_16 rfl ?_
    refine g_getf C fl_X3_24 dX3_split_17 (P1.kru hrr) rfl ?_
    refine g_iload C dX3_split_20 rfl ?_
    refine g_ialdN C dX3_split_22 (P1.kar lp (lenA_p (by omega))) (by omega) (by decide) ?_
    rw [p2]
    refine g_aaldN C dX3_split_23 P1.knts rfl p1 (by decide) (knts_at p1) ?_
    refine g_astore C dX3_split_24 (by decide) ?_
    refine g_iconst C dX3_split_26 (v := nI 0) rfl ?_
    refine g_istore C dX3_split_27 (by decide) ?_
    refine l_split_in (fr := fr) (lo := lo) C P1 hg hnr w1 hr his hh hT hE ?_ (chl g r h c i) 0 (by omega)
    refine g_aload C dX3_split_64 rfl ?_
    refine g_iload C dX3_split_66 rfl ?_
    refine g_iload C dX3_split_68 rfl ?_
    refine g_iastN C dX3_split_70 (P1.kar (n := 4) l75 rfl) (by omega) (by decide) ?_
    refine g_iload C dX3_split_71 rfl ?_
    refine g_iload C dX3_split_73 rfl ?_
    refine g_isub C dX3_split_75 ?_
    refine g_topI (pk_sub ch1.1) ?_
    refine g_istore C dX3_split_76 (by decide) ?_
    refine g_inc1 C dX3_split_78 rfl (by decide) ?_
    refine g_goto C dX3_split_81 (tgt := 6) (by decide) ?_
    refine g_loc [0, 1, 2, 3, 4, 5, 6] rfl ?_
    have P2 := P1.ar l75 (upd (S1.2.1 75) i (nI (chl g r h c i))) (n := 4) rfl
    refine ih (i + 1) _ _ (by omega) P2 (F1.st (t := 2) (k := 75) l75) (W1.ar (by simp) _) ?_ ?_ (fun j hj => ?_)
    · exact ⟨R1.1, fun r' hr' => (R1.2 r' hr').of rfl (va_up_ne _ _ (by omega))⟩
    · obtain ⟨H, w2, w3, w4⟩ := w1
      refine ⟨H, w2, ⟨fun n hn => ⟨fun c hc => ((w3.1 n hn).1 c hc), fun c hc => ?_⟩, fun r' hr' i' hi' c hc => ?_⟩, w4⟩
      · obtain ⟨q1, q2, q3⟩ := (w3.1 n hn).2 c hc
        refine ⟨q1, ?_, ?_⟩
        · show LT _ H (va_up S1.2.1 75 _ n c)
          rw [va_up_ne _ _ (by omega)]; exact q2
        · show RT g H n c (va_up S1.2.1 75 _ (5 + n) c)
          rw [va_up_ne _ _ (by omega)]; exact q3
      · obtain ⟨q1, q2, q3⟩ := w3.2 r' hr' i' hi' c hc
        have := (hg.2 r' hr').2.1
        refine ⟨q1, q2, ?_⟩
        show LT _ H (va_up S1.2.1 75 _ (20 + (5 * r' + i')) c)
        rw [va_up_ne _ _ (by omega)]; exact q3
    · show va_up S1.2.1 75 (upd (S1.2.1 75) i (nI (chl g r h c i))) 75 j = _
      rw [va_up_self]
      by_cases he : j = i
      · subst he; rw [pk_us]
      · rw [pk_un he]; exact I1 j (by omega)

set_option maxHeartbeats 4000000 in
set_option maxRecDepth 100000 in
theorem c_split (G : fm_G) (ad : Nat → Nat → Nat) (nr : Nat) (S : Cs) (M : fm_M) (Pi : Pic G ad nr S M) (g : Gr) (r h c n0 : Nat) (hg : GrOk g) (hnr : g.nR ≤ nr) (hR : ruS g S) (hw : wkI g S) (hr : r < g.nR) (hh : h = hgt g n0 c) (hT : Tr g n0 c) (hE : EH g r 0 h c) : fm_Ct G yX3_split cX3_split 9 none 1 24 0 0 [.ref (ad 4 r), .ref (ad 8 0), .int (nI c), .int (nI h), .ref (ad 2 75)] M (fun v M1 => v = none ∧ ∃ S', Pic G ad nr S' M1 ∧ Fr ad nr M M1 ∧ eqX S S' [] [75] ∧ ∀ j, j < g.sz r → S'.2.1 75 j = nI (chl g r h c j)) := by
  refine fm_head (by decide) (Nat.le_of_ble_eq_true rfl) rfl (fun X C N0 rt => ?_)
  refine g_iload_n C dX3_split_0 rfl ?_
  refine g_istore C dX3_split_1 (by decide) ?_
  refine g_iconst C dX3_split_3 (v := nI 0) rfl ?_
  refine g_istore C dX3_split_4 (by decide) ?_
  exact l_split (fr := 0) (lo := 0) (S := S) (M := M) C hg hnr hr hh hT hE (fun S1 M1 ls P1 F1 W1 I1 => rt none M1 _ _ _ ls (fm_retV dX3_split_84) ⟨rfl, S1, P1, F1, W1, I1⟩ (Nat.le_refl _) (Nat.le_refl _)) (g.sz r) 0 S M (by omega) Pi Fr.rf eqX.rf hR hw (fun j hj => absurd hj (Nat.not_lt_zero j))
