/-! Rule.grow -/
def tkE (S S' : Cs) (e : Nat) (nw : Nat → Bool) (rd : Int32) : Prop := ∀ c, c < 512 →
  bq (S'.1 (16 + 2 * e)) c = (nw c && !(bq (S.1 (15 + 2 * e)) c)) ∧ bq (S'.1 (15 + 2 * e)) c = (bq (S.1 (15 + 2 * e)) c || nw c) ∧ S'.2.1 (20 + e) c = (if (nw c && !(bq (S.1 (15 + 2 * e)) c)) = true then rd else S.2.1 (20 + e) c)
def smE (S S' : Cs) (e n : Nat) (nw : Nat → Bool) : Prop := ∀ c, c < 512 → (nw c = true ↔ (sumq (bq (S.1 (3 * n + 1))) (bq (S'.1 (15 + 2 * (e + 1)))) c ∨ sumq (bq (S'.1 (16 + 2 * (e + 1)))) (bq (S.1 (3 * n))) c))
/-- the ends of rule r from number i on have grown -/
def grI (S S' : Cs) (r sz lc : Nat) (pt : Nat → Nat) (rd : Int32) (i : Nat) : Prop := eqY S S' (kR r) (jR r) ∧ tkE S S' (5 * r + sz) (fun c => decide (c = lc)) rd ∧ (∀ j, i ≤ j → j < sz → ∃ nw, smE S S' (5 * r + j) (pt j) nw ∧ tkE S S' (5 * r + j) nw rd) ∧ ∀ j, j < i → S'.1 (15 + 2 * (5 * r + j)) = S.1 (15 + 2 * (5 * r + j)) ∧ S'.1 (16 + 2 * (5 * r + j)) = S.1 (16 + 2 * (5 * r + j)) ∧ S'.2.1 (20 + (5 * r + j)) = S.2.1 (20 + (5 * r + j))
theorem grI_start {S S' : Cs} {r sz lc : Nat} {pt : Nat → Nat} {rd : Int32} (hsz : sz ≤ 4) (h : tkI S S' (5 * r + sz) (fun c => decide (c = lc)) rd) : grI S S' r sz lc pt rd sz := by
  refine ⟨h.1.Y (by intro k hk; simp at hk; unfold kR; omega) (by intro k hk; simp at hk; unfold jR; omega), h.2, fun j h1 h2 => absurd h1 (by omega), fun j hj => ⟨h.1.1 _ (by simp; omega), h.1.1 _ (by simp; omega), h.1.2.1 _ (by simp; omega)⟩⟩
theorem grI_step {S S1 S2 : Cs} {r sz lc i : Nat} {pt : Nat → Nat} {rd : Int32} {nw : Nat → Bool} (h : grI S S1 r sz lc pt rd (i + 1)) (hi : i < sz) (hsz : sz ≤ 4) (hpt : pt i < 5)
    (hnw : ∀ c, c < 512 → (nw c = true ↔ (sumq (bq (S1.1 (3 * pt i + 1))) (bq (S1.1 (15 + 2 * (5 * r + i + 1)))) c ∨ sumq (bq (S1.1 (16 + 2 * (5 * r + i + 1)))) (bq (S1.1 (3 * pt i))) c))) (hT : tkI S1 S2 (5 * r + i) nw rd) : grI S S2 r sz lc pt rd i := by
  obtain ⟨h1, h2, h3, h4⟩ := h
  obtain ⟨t1, t2⟩ := hT
  have k1 : ∀ j, j ≠ i → j < 5 → S2.1 (15 + 2 * (5 * r + j)) = S1.1 (15 + 2 * (5 * r + j)) := fun j hj h5 => t1.1 _ (by simp; omega)
  have k2 : ∀ j, j ≠ i → j < 5 → S2.1 (16 + 2 * (5 * r + j)) = S1.1 (16 + 2 * (5 * r + j)) := fun j hj h5 => t1.1 _ (by simp; omega)
  have k3 : ∀ j, j ≠ i → j < 5 → S2.2.1 (20 + (5 * r + j)) = S1.2.1 (20 + (5 * r + j)) := fun j hj h5 => t1.2.1 _ (by simp; omega)
  obtain ⟨a1, a2, a3⟩ := h4 i (by omega)
  refine ⟨h1.tr (t1.Y (by intro k hk; simp at hk; unfold kR; omega) (by intro k hk; simp at hk; unfold jR; omega)), fun c hc => ?_, fun j h5 h6 => ?_, fun j hj => ?_⟩
  · have := h2 c hc
    rw [k1 sz (by omega) (by omega), k2 sz (by omega) (by omega), k3 sz (by omega) (by omega)]
    exact this
  · by_cases hji : j = i
    · subst hji
      refine ⟨nw, fun c hc => ?_, fun c hc => ?_⟩
      · rw [hnw c hc, h1.1 (3 * pt j + 1) (by unfold kR; omega), h1.1 (3 * pt j) (by unfold kR; omega)]
        have e1 : S2.1 (15 + 2 * (5 * r + j + 1)) = S1.1 (15 + 2 * (5 * r + j + 1)) := k1 (j + 1) (by omega) (by omega)
        have e2 : S2.1 (16 + 2 * (5 * r + j + 1)) = S1.1 (16 + 2 * (5 * r + j + 1)) := k2 (j + 1) (by omega) (by omega)
        rw [e1, e2]
      · have := t2 c hc
        rw [a1, a3] at this
        exact this
    · obtain ⟨nw', g1, g2⟩ := h3 j (by omega) h6
      refine ⟨nw', fun c hc => ?_, fun c hc => ?_⟩
      · have e1 : S2.1 (15 + 2 * (5 * r + j + 1)) = S1.1 (15 + 2 * (5 * r + j + 1)) := k1 (j + 1) (by omega) (by omega)
        have e2 : S2.1 (16 + 2 * (5 * r + j + 1)) = S1.1 (16 + 2 * (5 * r + j + 1)) := k2 (j + 1) (by omega) (by omega)
        rw [e1, e2]
        exact g1 c hc
      · rw [k1 j hji (by omega), k2 j hji (by omega), k3 j hji (by omega)]
        exact g2 c hc
  · obtain ⟨b1, b2, b3⟩ := h4 j (by omega)
    exact ⟨(k1 j (by omega) (by omega)).trans b1, (k2 j (by omega) (by omega)).trans b2, (k3 j (by omega) (by omega)).trans b3⟩

set_option maxHeartbeats 4000000 in
set_option maxRecDepth 100000 in
theorem l_R_grow {G : fm_G} {ad : Nat → Nat → Nat} {nr : Nat} {S : Cs} {M : fm_M} {X : fm_X} {fr lo mc ms : Nat} {r lf sz lc : Nat} {pt : Nat → Nat} {rd : Int32} (C : GC G X RX3 cX3_grow 4 (fr + 3) (lo + 75) mc ms) (hr : r < nr) (hI : ruI S r lf sz lc pt) (kk : ∀ S' M1 ls, Pic G ad nr S' M1 → Fr ad nr M M1 → grI S S' r sz lc pt rd 0 → GW G X 4 M1 0 0 60 ls []) : ∀ m S1 M1, m ≤ sz → Pic G ad nr S1 M1 → Fr ad nr M M1 → grI S S1 r sz lc pt rd m → GW G X 4 M1 0 0 24 [(0, .ref (ad 4 r)), (1, .ref (ad 8 0)), (2, .int rd), (3, .int (dn m))] [] := by
  obtain ⟨i1, i2, i3, i4, i5, i6, i7⟩ := hI
  intro m
  induction m with
  | zero =>
    intro S1 M1 hm P1 F1 I1
    refine g_iload_n C dX3_grow_24 rfl ?_
    refine g_if_lt C dX3_grow_25 (tgt := 60) (by decide) (fun hb => ?_) (fun hb => absurd (by decide) hb)
    exact kk S1 M1 _ P1 F1 I1
  | succ m ih =>
    intro S1 M1 hm P1 F1 I1
    show GW G X 4 M1 0 0 24 [(0, .ref (ad 4 r)), (1, .ref (ad 8 0)), (2, .int rd), (3, .int (nI m))] []
    have h10 := P1.1
    have lp : liv nr 2 (10 + r) := Or.inr (Or.inl ⟨by omega, by omega⟩)
    have he : 5 * r + m < 5 * nr := by omega
    have he2 : 5 * r + (m + 1) < 5 * nr := by omega
    obtain ⟨p1, p2⟩ := i7 m (by omega)
    have p3 : S1.2.1 (10 + r) m = nI (pt m) := by rw [I1.1.2.1 (10 + r) (by unfold jR; omega)]; exact p2
    refine g_iload_n C dX3_grow_24 rfl ?_
    refine g_if_lt C dX3_grow_25 (tgt := 60) (by decide) (fun hb => absurd hb (nI_pos (by omega))) (fun hb => ?_)
    refine g_aload_n C dX3_grow_28 rfl ?_
    refine g_getf C fl_X3_30 dX3_grow_29 (P1.kru hr) rfl ?_
    refine g_iload_n C dX3_grow_32 rfl ?_
    refine g_aaldN C dX3_grow_33 (P1.kends hr) rfl (by omega) (by decide) (kends_at (by omega)) ?_
    refine g_aload_n C dX3_grow_34 rfl ?_
    refine g_aload_n C dX3_grow_35 rfl ?_
    refine g_getf C fl_X3_24 dX3_grow_36 (P1.kru hr) rfl ?_
    refine g_iload_n C dX3_grow_39 rfl ?_
    refine g_ialdN C dX3_grow_40 (P1.kar lp (lenA_p (by omega))) (by omega) (by decide) ?_
    rw [p3]
    refine g_aaldN C dX3_grow_41 P1.knts rfl p1 (by decide) (knts_at p1) ?_
    refine g_aload_n C dX3_grow_42 rfl ?_
    refine g_getf C fl_X3_30 dX3_grow_43 (P1.kru hr) rfl ?_
    refine g_iload_n C dX3_grow_46 rfl ?_
    refine g_iconst C dX3_grow_47 (v := nI 1) rfl ?_
    refine g_iadd C dX3_grow_48 ?_
    refine g_topI (nI_add m 1) ?_
    refine g_aaldN C dX3_grow_49 (P1.kends hr) rfl (by omega) (by decide) (kends_at (by omega)) ?_
    refine g_iload_n C dX3_grow_50 rfl ?_
    refine g_callV (ci := 1) C dX3_grow_51 cw_X3_42 rfl (c_End_grow G ad nr S1 M1 P1 (5 * r + m) (pt m) (5 * r + (m + 1)) rd he p1 he2 (by omega)) (P1.kend he) rfl rfl (Nat.le_of_ble_eq_true rfl) (by omega) (by omega) (by omega) (by omega) (fun v M2 hq => ?_)
    obtain ⟨rfl, S2, P2, F2, nw, hnw, T2⟩ := hq
    show GW G X 4 M2 0 0 54 _ []
    refine g_iinc C dX3_grow_54 rfl (dn_m1 m) (by decide) ?_
    refine g_goto C dX3_grow_57 (tgt := 24) (by decide) ?_
    exact ih S2 M2 (by omega) P2 (F1.tr F2) (grI_step I1 (by omega) i6 p1 hnw T2)

set_option maxHeartbeats 4000000 in
set_option maxRecDepth 100000 in
theorem c_R_grow (G : fm_G) (ad : Nat → Nat → Nat) (nr : Nat) (S : Cs) (M : fm_M) (Pi : Pic G ad nr S M) (r lf sz lc : Nat) (pt : Nat → Nat) (rd : Int32) (hr : r < nr) (hI : ruI S r lf sz lc pt) : fm_Ct G yX3_grow cX3_grow 4 none 3 75 0 0 [.ref (ad 4 r), .ref (ad 8 0), .int rd] M (fun v M1 => v = none ∧ ∃ S', Pic G ad nr S' M1 ∧ Fr ad nr M M1 ∧ grI S S' r sz lc pt rd 0) := by
  have hI0 := hI
  obtain ⟨i1, i2, i3, i4, i5, i6, i7⟩ := hI
  have he : 5 * r + sz < 5 * nr := by omega
  refine fm_head (by decide) (Nat.le_of_ble_eq_true rfl) rfl (fun X C N0 rt => ?_)
  refine g_aload_n C dX3_grow_0 rfl ?_
  refine g_getf C fl_X3_30 dX3_grow_1 (Pi.kru hr) rfl ?_
  refine g_aload_n C dX3_grow_4 rfl ?_
  refine g_getf C fl_X3_21 dX3_grow_5 (Pi.kru hr) rfl ?_
  rw [i5]
  refine g_aaldN C dX3_grow_8 (Pi.kends hr) rfl (by omega) (by decide) (kends_at (by omega)) ?_
  refine g_aload_n C dX3_grow_9 rfl ?_
  refine g_getf C fl_X3_18 dX3_grow_10 (Pi.kru hr) rfl ?_
  rw [i3]
  refine g_iload_n C dX3_grow_13 rfl ?_
  refine g_callV (ci := 1) C dX3_grow_14 cw_X3_38 rfl (c_growLetters G ad nr S M Pi (5 * r + sz) lc rd he i4) (Pi.kend he) rfl rfl (Nat.le_of_ble_eq_true rfl) (by decide) (by decide) (by decide) (by decide) (fun v M1 hq => ?_)
  obtain ⟨rfl, S1, P1, F1, T1⟩ := hq
  have e5 : S1.2.2 (40 + r) = nI sz := by rw [T1.1.2.2]; exact i5
  show GW G X 4 M1 0 0 17 _ []
  refine g_aload_n C dX3_grow_17 rfl ?_
  refine g_getf C fl_X3_21 dX3_grow_18 (P1.kru hr) rfl ?_
  rw [e5]
  refine g_iconst C dX3_grow_21 (v := nI 1) rfl ?_
  refine g_isub C dX3_grow_22 ?_
  refine g_topI (dn_of sz) ?_
  refine g_istore_n C dX3_grow_23 (by decide) ?_
  exact l_R_grow (fr := 0) (lo := 0) C hr hI0 (fun S' M2 ls P2 F2 I2 => rt none M2 _ _ _ ls (fm_retV dX3_grow_60) ⟨rfl, S', P2, F2, I2⟩ (Nat.le_refl _) (Nat.le_refl _)) sz S1 M1 (Nat.le_refl _) P1 F1 (grI_start i6 T1)
