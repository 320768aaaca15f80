/-! Walk.through -/
/-- the walk behind t steps -/
def thI (g : Gr) (n c : Nat) (S S' : Cs) (t : Nat) : Prop := eqT S S' ∧ S'.2.2 3 = nI t ∧ S'.2.2 4 = nI (dh g n c t) ∧ (∀ j, j < dh g n c t → S'.2.1 73 j = nI ((Ds g n c t).2.1 j) ∧ S'.2.1 74 j = nI ((Ds g n c t).2.2 j)) ∧ (∀ s, s < t → S'.2.1 71 s = nI (tr g n c s)) ∧ ∀ r, r < 10 → S'.2.1 72 r = nI (us g n c t r)
def thG (g : Gr) (n c t : Nat) : Prop := DOk g n c t ∧ t + dh g n c t ≤ 500 ∧ ∀ s, s < t → 0 < dh g n c s ∧ us g n c s (tr g n c s) < 50
theorem Gd_gt {g : Gr} {n c t T : Nat} (h : thG g n c t) (hp : 0 < dh g n c t) (hT : Gd g n c T) : t < T := by
  refine Nat.lt_of_not_le (fun z => ?_)
  by_cases he : T = t
  · subst he; have := hT.1; omega
  · have := (h.2.2 T (by omega)).1; have := hT.1; omega
theorem us_le (g : Gr) (n c t r : Nat) : us g n c t r ≤ t := cntq_le _ _
/-- what walk.through answers -/
def thA (g : Gr) (n c : Nat) (S S' : Cs) (b : Bool) : Prop := eqT S S' ∧ (b = true → ∃ T, Gd g n c T ∧ S'.2.2 3 = nI T ∧ (∀ s, s < T → S'.2.1 71 s = nI (tr g n c s)) ∧ ∀ r, r < 10 → S'.2.1 72 r = nI (us g n c T r)) ∧ (b = false → ¬ ∃ T, Gd g n c T)
theorem th_next {g : Gr} {n c t : Nat} {S S1 S2 S3 S4 S5 S6 S7 : Cs} (h10 : g.nR ≤ 10) (hp : 0 < dh g n c t) (htr : tr g n c t < 10) (I1 : thI g n c S S1 t) (A2 : scI S1 S2 4 (nI (dh g n c t - 1))) (A3 : arI S2 S3 71 (upd (S2.2.1 71) t (nI (tr g n c t)))) (A4 : scI S3 S4 3 (nI (t + 1))) (A5 : arI S4 S5 72 (upd (S4.2.1 72) (tr g n c t) (nI (us g n c t (tr g n c t) + 1)))) (A6 : eqX S5 S6 [] [75]) (c6 : ∀ j, j < g.sz (tr g n c t) → S6.2.1 75 j = nI (chl g (tr g n c t) (hgt g (dN g n c t) (dC g n c t)) (dC g n c t) j)) (A7 : obI S6 S7 (dh g n c t - 1) (g.sz (tr g n c t)) 0 (g.pt (tr g n c t)) (S6.2.1 75)) : thI g n c S S7 (t + 1) := by
  obtain ⟨i1, i2, i3, i4, i5, i6⟩ := I1
  obtain ⟨o1, o2, o3, o4, o5, o6⟩ := A7
  have e71 : S6.2.1 71 = upd (S1.2.1 71) t (nI (tr g n c t)) := by
    rw [A6.2.1 71 (by simp), A5.ne (by decide), A4.2.1, A3.at, A2.2.1]
  have e72 : S6.2.1 72 = upd (S1.2.1 72) (tr g n c t) (nI (us g n c t (tr g n c t) + 1)) := by
    rw [A6.2.1 72 (by simp), A5.at, A4.2.1, A3.ne (by decide), A2.2.1]
  have e73 : S6.2.1 73 = S1.2.1 73 := by rw [A6.2.1 73 (by simp), A5.ne (by decide), A4.2.1, A3.ne (by decide), A2.2.1]
  have e74 : S6.2.1 74 = S1.2.1 74 := by rw [A6.2.1 74 (by simp), A5.ne (by decide), A4.2.1, A3.ne (by decide), A2.2.1]
  refine ⟨i1.tr ((A2.T (Or.inr rfl)).tr ((A3.T (by omega)).tr ((A4.T (Or.inl rfl)).tr ((A5.T (by omega)).tr (A6.T.tr o1))))), ?_, ?_, fun j hj => ?_, fun s hs => ?_, fun r hr => ?_⟩
  · rw [o3, A6.2.2, A5.2.2, A4.at]
  · rw [o4, dh_s, Nat.sub_zero]
  · rw [dh_s] at hj
    by_cases hk : j < dh g n c t - 1
    · have e1 : (Ds g n c (t + 1)).2.1 j = (Ds g n c t).2.1 j := if_pos hk
      have e2 : (Ds g n c (t + 1)).2.2 j = (Ds g n c t).2.2 j := if_pos hk
      rw [e1, e2, (o5 j hk).1, (o5 j hk).2, e73, e74]
      exact i4 j (by omega)
    · have e1 : (Ds g n c (t + 1)).2.1 j = g.pt (tr g n c t) (g.sz (tr g n c t) - 1 - (j - (dh g n c t - 1))) := if_neg hk
      have e2 : (Ds g n c (t + 1)).2.2 j = chl g (tr g n c t) (hgt g (dN g n c t) (dC g n c t)) (dC g n c t) (g.sz (tr g n c t) - 1 - (j - (dh g n c t - 1))) := if_neg hk
      obtain ⟨q1, q2⟩ := o6 (j - (dh g n c t - 1)) (by omega)
      rw [show dh g n c t - 1 + (j - (dh g n c t - 1)) = j by omega] at q1 q2
      rw [e1, e2, q1, q2, c6 _ (by omega)]
      exact ⟨rfl, rfl⟩
  · rw [o2 71 (by decide) (by decide), e71]
    by_cases he : s = t
    · subst he; rw [pk_us]
    · rw [pk_un he]; exact i5 s (by omega)
  · rw [o2 72 (by decide) (by decide), e72, us_s]
    by_cases he : tr g n c t = r
    · subst he; rw [pk_us, if_pos rfl]
    · rw [pk_un (fun z => he z.symm), if_neg he]; exact i6 r hr
theorem lenA_k {j n : Nat} (h : lenA j = n) : lenA j = n := h

set_option maxHeartbeats 4000000 in
set_option maxRecDepth 100000 in
theorem l_through {G : fm_G} {ad : Nat → Nat → Nat} {nr : Nat} {S : Cs} {M : fm_M} {X : fm_X} {fr lo mc ms : Nat} {g : Gr} {n c : Nat} (C : GC G X RX4 cX4_through 9 (fr + 2) (lo + 52) mc ms) (hg : GrOk g) (hnr : g.nR ≤ nr) (hR : ruS g S) (hw : wkI g S) (kk : ∀ b S' M1 pc, (pc = 158 ∨ pc = 200) → Pic G ad nr S' M1 → Fr ad nr M M1 → thA g n c S S' b → ∀ ls, GW G X 9 M1 0 0 pc ls [.int (bI b)]) : ∀ d t S1 M1, t + d = 500 → Pic G ad nr S1 M1 → Fr ad nr M M1 → thI g n c S S1 t → thG g n c t → GW G X 9 M1 0 0 25 [(0, .ref (ad 10 0)), (1, .ref (ad 8 0)), (2, .ref (ad 9 0)), (3, .int (nI n)), (4, .int (nI c))] [] := by
  have h10 := hg.1
  have fin : ∀ t S1 M1, Pic G ad nr S1 M1 → Fr ad nr M M1 → thI g n c S S1 t → thG g n c t → dh g n c t = 0 → GW G X 9 M1 0 0 25 [(0, .ref (ad 10 0)), (1, .ref (ad 8 0)), (2, .ref (ad 9 0)), (3, .int (nI n)), (4, .int (nI c))] [] := by
    intro t S1 M1 P1 F1 I1 J1 h0
    have e0 : S1.2.2 4 = nI 0 := by rw [I1.2.2.1, h0]
    refine g_aload_n C dX4_through_25 rfl ?_
    refine g_getf C fl_X4_28 dX4_through_26 P1.kwk rfl ?_
    rw [e0]
    refine g_if_le C dX4_through_29 (tgt := 188) (by decide) (fun hb => ?_) (fun hb => absurd (by decide) hb)
    refine g_aload_n C dX4_through_188 rfl ?_
    refine g_getf C fl_X4_28 dX4_through_189 P1.kwk rfl ?_
    rw [e0]
    refine g_if_ne C dX4_through_192 (tgt := 199) (by decide) (fun hb => absurd (by decide) hb) (fun hb => ?_)
    refine g_iconst C dX4_through_195 (v := nI 1) rfl ?_
    refine g_goto C dX4_through_196 (tgt := 200) (by decide) ?_
    exact kk true S1 M1 200 (Or.inr rfl) P1 F1 ⟨I1.1, fun _ => ⟨t, ⟨h0, by have := J1.2.1; omega, J1.2.2⟩, I1.2.1, I1.2.2.2.2.1, I1.2.2.2.2.2⟩, fun z => absurd z.symm Bool.false_ne_true⟩ _
  intro d
  induction d with
  | zero =>
    intro t S1 M1 ht P1 F1 I1 J1
    exact fin t S1 M1 P1 F1 I1 J1 (by have := J1.2.1; omega)
  | succ d ih =>
    intro t S1 M1 ht P1 F1 I1 J1
    by_cases h0 : dh g n c t = 0
    · exact fin t S1 M1 P1 F1 I1 J1 h0
    have hp : 0 < dh g n c t := by omega
    have hI := I1
    obtain ⟨i1, i2, i3, i4, i5, i6⟩ := hI
    obtain ⟨j1, j2, j3⟩ := J1
    obtain ⟨t1, t2, t3⟩ := DOk_top j1 hp
    obtain ⟨b1, b2, b3⟩ := rootF_at t3
    have hle := us_le g n c t (tr g n c t)
    have htr : tr g n c t < g.nR := b1
    have htn : tr g n c t < nr := by omega
    have hsz := (hg.2 _ htr).2.1
    have l71 : liv nr 2 71 := Or.inr (Or.inr (Or.inr (by omega)))
    have l72 : liv nr 2 72 := Or.inr (Or.inr (Or.inr (by omega)))
    have l73 : liv nr 2 73 := Or.inr (Or.inr (Or.inr (by omega)))
    have l74 : liv nr 2 74 := Or.inr (Or.inr (Or.inr (by omega)))
    have lh : liv nr 2 (dN g n c t) := Or.inl (by omega)
    have lr : liv nr 2 (5 + dN g n c t) := Or.inl (by omega)
    obtain ⟨k3, k4⟩ := i4 (dh g n c t - 1) (by omega)
    have k3' : S1.2.1 73 (dh g n c t - 1) = nI (dN g n c t) := k3
    have k4' : S1.2.1 74 (dh g n c t - 1) = nI (dC g n c t) := k4
    refine g_aload_n C dX4_through_25 rfl ?_
    refine g_getf C fl_X4_28 dX4_through_26 P1.kwk rfl ?_
    rw [i3]
    refine g_if_le C dX4_through_29 (tgt := 188) (by decide) (fun hb => absurd hb (nI_nle hp (by omega))) (fun hb => ?_)
    refine g_aload_n C dX4_through_32 rfl ?_
    refine g_getf C fl_X4_18 dX4_through_33 P1.kwk rfl ?_
    rw [i2]
    refine g_sipush C dX4_through_36 (v := nI 500) rfl ?_
    refine g_icmp_geN C dX4_through_39 (tgt := 188) (by decide) (by omega) (by decide) (fun hb => absurd hb (by omega)) (fun hb => ?_)
    refine g_aload_n C dX4_through_42 rfl ?_
    refine g_dup C dX4_through_43 rfl ?_
    refine g_getf C fl_X4_28 dX4_through_44 P1.kwk rfl ?_
    rw [i3]
    refine g_iconst C dX4_through_47 (v := nI 1) rfl ?_
    refine g_isub C dX4_through_48 ?_
    refine g_topI (pk_sub hp) ?_
    refine g_putf C fl_X4_28 rfl dX4_through_49 P1.kwk rfl rfl (Nat.le_of_ble_eq_true rfl) ?_
    refine g_abs (fun M' => ∃ S2, Pic G ad nr S2 M' ∧ Fr ad nr M M' ∧ scI S1 S2 4 (nI (dh g n c t - 1))) ⟨_, P1.wk (Or.inr rfl) _ rfl, F1.st (t := 10) (k := 0) rfl, rfl, rfl, rfl⟩ (fun M2 ⟨S2, P2, F2, A2⟩ => ?_)
    have y3 : S2.2.1 73 (dh g n c t - 1) = nI (dN g n c t) := by rw [A2.2.1]; exact k3'
    have y4 : S2.2.1 74 (dh g n c t - 1) = nI (dC g n c t) := by rw [A2.2.1]; exact k4'
    have y5 : S2.2.2 3 = nI t := by rw [A2.ne (by decide)]; exact i2
    have T2 : eqT S S2 := i1.tr (A2.T (Or.inr rfl))
    have w2 := T2.wk hg hw
    obtain ⟨H, H1, H2, H3⟩ := w2
    have hHH : Hh g H (dN g n c t) (dC g n c t) := by
      obtain ⟨k, hk⟩ := t3
      by_cases hz : H ≤ k
      · exact H3 k hz _ _ hk
      · exact Hh_mono g (by omega) hk
    obtain ⟨z1, z2, z3⟩ := (H2.1 _ t1).2 _ t2
    have yr : S2.2.1 (5 + dN g n c t) (dC g n c t) = nI (tr g n c t) := RT_root z3 hHH
    have yh : S2.2.1 (dN g n c t) (dC g n c t) = nI (hgt g (dN g n c t) (dC g n c t)) := (LT_hgt z2 hHH).1
    refine g_aload_n C dX4_through_52 rfl ?_
    refine g_aload_n C dX4_through_53 rfl ?_
    refine g_getf C fl_X4_22 dX4_through_54 P2.kwk rfl ?_
    refine g_aload_n C dX4_through_57 rfl ?_
    refine g_getf C fl_X4_28 dX4_through_58 P2.kwk rfl ?_
    rw [A2.at]
    refine g_ialdN C dX4_through_61 (P2.kar (n := 500) l73 rfl) (show dh g n c t - 1 < 500 by omega) (by decide) ?_
    rw [y3]
    refine g_aaldN C dX4_through_62 P2.knts rfl t1 (by decide) (knts_at t1) ?_
    refine g_astore C dX4_through_63 (by decide) ?_
    refine g_aload_n C dX4_through_65 rfl ?_
    refine g_getf C fl_X4_25 dX4_through_66 P2.kwk rfl ?_
    refine g_aload_n C dX4_through_69 rfl ?_
    refine g_getf C fl_X4_28 dX4_through_70 P2.kwk rfl ?_
    rw [A2.at]
    refine g_ialdN C dX4_through_73 (P2.kar (n := 500) l74 rfl) (show dh g n c t - 1 < 500 by omega) (by decide) ?_
    rw [y4]
    refine g_istore C dX4_through_74 (by decide) ?_
    refine g_aload C dX4_through_76 rfl ?_
    refine g_getf C fl_X4_44 dX4_through_78 (P2.knt t1) rfl ?_
    refine g_iload C dX4_through_81 rfl ?_
    refine g_ialdN C dX4_through_83 (P2.kar lr (lenA_h (by omega))) t2 (by decide) ?_
    rw [yr]
    refine g_istore C dX4_through_84 (by decide) ?_
    refine g_aload_n C dX4_through_86 rfl ?_
    refine g_getf C fl_X4_9 dX4_through_87 P2.kwk rfl ?_
    refine g_aload_n C dX4_through_90 rfl ?_
    refine g_getf C fl_X4_18 dX4_through_91 P2.kwk rfl ?_
    rw [y5]
    refine g_iload C dX4_through_94 rfl ?_
    refine g_iastN C dX4_through_96 (P2.kar (n := 500) l71 rfl) (show t < 500 by omega) (by decide) ?_
    refine g_abs (fun M' => ∃ S3, Pic G ad nr S3 M' ∧ Fr ad nr M M' ∧ arI S2 S3 71 (upd (S2.2.1 71) t (nI (tr g n c t)))) ⟨_, P2.ar l71 _ rfl, F2.st (t := 2) (k := 71) l71, rfl, rfl, rfl⟩ (fun M3 ⟨S3, P3, F3, A3⟩ => ?_)
    have y6 : S3.2.2 3 = nI t := by rw [A3.2.2]; exact y5
    refine g_aload_n C dX4_through_97 rfl ?_
    refine g_dup C dX4_through_98 rfl ?_
    refine g_getf C fl_X4_18 dX4_through_99 P3.kwk rfl ?_
    rw [y6]
    refine g_iconst C dX4_through_102 (v := nI 1) rfl ?_
    refine g_iadd C dX4_through_103 ?_
    refine g_topI (nI_add t 1) ?_
    refine g_putf C fl_X4_18 rfl dX4_through_104 P3.kwk rfl rfl (Nat.le_of_ble_eq_true rfl) ?_
    refine g_abs (fun M' => ∃ S4, Pic G ad nr S4 M' ∧ Fr ad nr M M' ∧ scI S3 S4 3 (nI (t + 1))) ⟨_, P3.wk (Or.inl rfl) _ rfl, F3.st (t := 10) (k := 0) rfl, rfl, rfl, rfl⟩ (fun M4 ⟨S4, P4, F4, A4⟩ => ?_)
    have y7 : S4.2.1 72 (tr g n c t) = nI (us g n c t (tr g n c t)) := by rw [A4.2.1, A3.ne (by decide), A2.2.1]; exact i6 _ (by omega)
    refine g_aload_n C dX4_through_107 rfl ?_
    refine g_getf C fl_X4_15 dX4_through_108 P4.kwk rfl ?_
    refine g_iload C dX4_through_111 rfl ?_
    refine g_dup2 C dX4_through_113 rfl rfl ?_
    refine g_ialdN C dX4_through_114 (P4.kar (n := 10) l72 rfl) (show tr g n c t < 10 by omega) (by decide) ?_
    rw [y7]
    refine g_iconst C dX4_through_115 (v := nI 1) rfl ?_
    refine g_iadd C dX4_through_116 ?_
    refine g_topI (nI_add _ 1) ?_
    refine g_iastN C dX4_through_117 (P4.kar (n := 10) l72 rfl) (show tr g n c t < 10 by omega) (by decide) ?_
    refine g_abs (fun M' => ∃ S5, Pic G ad nr S5 M' ∧ Fr ad nr M M' ∧ arI S4 S5 72 (upd (S4.2.1 72) (tr g n c t) (nI (us g n c t (tr g n c t) + 1)))) ⟨_, P4.ar l72 _ rfl, F4.st (t := 2) (k := 72) l72, rfl, rfl, rfl⟩ (fun M5 ⟨S5, P5, F5, A5⟩ => ?_)
    have T5 : eqT S S5 := T2.tr ((A3.T (by omega)).tr ((A4.T (Or.inl rfl)).tr (A5.T (by omega))))
    have R5 := T5.ru h10 hR
    have w5 := T5.wk hg hw
    have u1 : S5.2.1 72 (tr g n c t) = nI (us g n c t (tr g n c t) + 1) := by rw [A5.at, pk_us]
    have u2 : S5.2.2 3 = nI (t + 1) := by rw [A5.2.2, A4.at]
    have u3 : S5.2.2 4 = nI (dh g n c t - 1) := by rw [A5.2.2, A4.ne (by decide), A3.2.2, A2.at]
    obtain ⟨r1, r2, r3, r4, r5, r6, r7⟩ := R5.2 _ htr
    have no : (50 < us g n c t (tr g n c t) + 1 ∨ 500 < t + 1 + (dh g n c t - 1) + g.sz (tr g n c t)) → ∀ ls, GW G X 9 M5 0 0 157 ls [] := by
      intro hno ls
      refine g_iconst C dX4_through_157 (v := nI 0) rfl ?_
      refine kk false S5 M5 158 (Or.inl rfl) P5 F5 ⟨T5, fun z => absurd z Bool.false_ne_true, fun _ ⟨T, hT⟩ => ?_⟩ _
      have hlt := Gd_gt ⟨j1, j2, j3⟩ hp hT
      rcases hno with hno | hno
      · have := (hT.2.2 t hlt).2; omega
      · have := Gd_far hT (T - (t + 1)) (t + 1) (by omega)
        rw [dh_s] at this
        have := hT.2.1
        omega
    refine g_aload_n C dX4_through_118 rfl ?_
    refine g_iload C dX4_through_119 rfl ?_
    refine g_aaldN C dX4_through_121 P5.krus rfl (by omega) (by decide) (krus_at htn) ?_
    refine g_astore C dX4_through_122 (by decide) ?_
    refine g_aload_n C dX4_through_124 rfl ?_
    refine g_getf C fl_X4_15 dX4_through_125 P5.kwk rfl ?_
    refine g_iload C dX4_through_128 rfl ?_
    refine g_ialdN C dX4_through_130 (P5.kar (n := 10) l72 rfl) (show tr g n c t < 10 by omega) (by decide) ?_
    rw [u1]
    refine g_bipush C dX4_through_131 (v := nI 50) rfl ?_
    refine g_icmp_gtN C dX4_through_133 (tgt := 157) (by decide) (by omega) (by decide) (fun hb => no (Or.inl hb) _) (fun hb => ?_)
    refine g_aload_n C dX4_through_136 rfl ?_
    refine g_getf C fl_X4_18 dX4_through_137 P5.kwk rfl ?_
    rw [u2]
    refine g_aload_n C dX4_through_140 rfl ?_
    refine g_getf C fl_X4_28 dX4_through_141 P5.kwk rfl ?_
    rw [u3]
    refine g_iadd C dX4_through_144 ?_
    refine g_topI (nI_add _ _) ?_
    refine g_aload C dX4_through_145 rfl ?_
    refine g_getf C fl_X4_49 dX4_through_147 (P5.kru htn) rfl ?_
    rw [r5]
    refine g_iadd C dX4_through_150 ?_
    refine g_topI (nI_add _ _) ?_
    refine g_sipush C dX4_through_151 (v := nI 500) rfl ?_
    refine g_icmp_leN C dX4_through_154 (tgt := 159) (by decide) (by omega) (by decide) (fun hb2 => ?_) (fun hb2 => no (Or.inr hb2) _)
    have yh5 : S5.2.1 (dN g n c t) (dC g n c t) = nI (hgt g (dN g n c t) (dC g n c t)) := by rw [A5.ne (by omega), A4.2.1, A3.ne (by omega)]; exact yh
    refine g_aload C dX4_through_159 rfl ?_
    refine g_aload_n C dX4_through_161 rfl ?_
    refine g_iload C dX4_through_162 rfl ?_
    refine g_aload C dX4_through_164 rfl ?_
    refine g_getf C fl_X4_52 dX4_through_166 (P5.knt t1) rfl ?_
    refine g_iload C dX4_through_169 rfl ?_
    refine g_ialdN C dX4_through_171 (P5.kar lh (lenA_h (by omega))) t2 (by decide) ?_
    rw [yh5]
    refine g_aload_n C dX4_through_172 rfl ?_
    refine g_getf C fl_X4_31 dX4_through_173 P5.kwk rfl ?_
    refine g_callV (ci := 3) C dX4_through_176 cw_X4_55 rfl (c_split G ad nr S5 M5 P5 g (tr g n c t) (hgt g (dN g n c t) (dC g n c t)) (dC g n c t) (dN g n c t) hg hnr R5 w5 htr rfl t3 b3) (P5.kru htn) rfl rfl (Nat.le_of_ble_eq_true rfl) (by omega) (by omega) (by omega) (by omega) (fun v M6 hq => ?_)
    obtain ⟨rfl, S6, P6, F6, A6, c6⟩ := hq
    have R6 := A6.T.ru h10 R5
    have u6 : S6.2.2 4 = nI (dh g n c t - 1) := by rw [A6.2.2]; exact u3
    show GW G X 9 M6 0 0 179 _ []
    refine g_aload_n C dX4_through_179 rfl ?_
    refine g_aload C dX4_through_180 rfl ?_
    refine g_callV (ci := 4) C dX4_through_182 cw_X4_59 rfl (c_openBelow G ad nr S6 M6 P6 (tr g n c t) _ _ _ (dh g n c t - 1) _ htn (by omega) u6 (R6.2 _ htr)) P6.kwk rfl rfl (Nat.le_of_ble_eq_true rfl) (by omega) (by omega) (by omega) (by omega) (fun v M7 hq => ?_)
    obtain ⟨rfl, S7, P7, F7, A7⟩ := hq
    show GW G X 9 M7 0 0 185 _ []
    refine g_goto C dX4_through_185 (tgt := 25) (by decide) ?_
    refine g_loc [0, 1, 2, 3, 4] rfl ?_
    refine ih (t + 1) S7 M7 (by omega) P7 ((F5.tr F6).tr F7) (th_next h10 hp (by omega) I1 A2 A3 A4 A5 A6 c6 A7) ⟨DOk_s hg j1 hp, ?_, fun s hs => ?_⟩
    · rw [dh_s]; omega
    · by_cases he : s = t
      · subst he; exact ⟨hp, by omega⟩
      · exact j3 s (by omega)

set_option maxHeartbeats 4000000 in
set_option maxRecDepth 100000 in
theorem c_through (G : fm_G) (ad : Nat → Nat → Nat) (nr : Nat) (S : Cs) (M : fm_M) (Pi : Pic G ad nr S M) (g : Gr) (n c : Nat) (hg : GrOk g) (hnr : g.nR ≤ nr) (hR : ruS g S) (hw : wkI g S) (hT : Tr g n c) : fm_Ct G yX4_through cX4_through 9 (some .boolean) 2 52 0 0 [.ref (ad 10 0), .ref (ad 8 0), .ref (ad 9 0), .int (nI n), .int (nI c)] M (fun v M1 => ∃ b S', v = some (.int (bI b)) ∧ Pic G ad nr S' M1 ∧ Fr ad nr M M1 ∧ thA g n c S S' b) := by
  have h10 := hg.1
  have l72 : liv nr 2 72 := Or.inr (Or.inr (Or.inr (by omega)))
  refine fm_head (by decide) (Nat.le_of_ble_eq_true rfl) rfl (fun X C N0 rt => ?_)
  refine g_aload_n C dX4_through_0 rfl ?_
  refine g_iconst C dX4_through_1 (v := nI 0) rfl ?_
  refine g_putf C fl_X4_18 rfl dX4_through_2 Pi.kwk rfl rfl (Nat.le_of_ble_eq_true rfl) ?_
  refine g_abs (fun M' => ∃ S1, Pic G ad nr S1 M' ∧ Fr ad nr M M' ∧ scI S S1 3 (nI 0)) ⟨_, Pi.wk (Or.inl rfl) _ rfl, Fr.rf.st (t := 10) (k := 0) rfl, rfl, rfl, rfl⟩ (fun M1 ⟨S1, P1, F1, A1⟩ => ?_)
  refine g_aload_n C dX4_through_5 rfl ?_
  refine g_iconst C dX4_through_6 (v := nI 0) rfl ?_
  refine g_putf C fl_X4_28 rfl dX4_through_7 P1.kwk rfl rfl (Nat.le_of_ble_eq_true rfl) ?_
  refine g_abs (fun M' => ∃ S2, Pic G ad nr S2 M' ∧ Fr ad nr M M' ∧ scI S1 S2 4 (nI 0)) ⟨_, P1.wk (Or.inr rfl) _ rfl, F1.st (t := 10) (k := 0) rfl, rfl, rfl, rfl⟩ (fun M2 ⟨S2, P2, F2, A2⟩ => ?_)
  refine g_aload_n C dX4_through_10 rfl ?_
  refine g_getf C fl_X4_15 dX4_through_11 P2.kwk rfl ?_
  refine g_iconst C dX4_through_14 (v := nI 0) rfl ?_
  refine g_callS C dX4_through_15 cw_X4_34 (c_fillI G (ad 2 72) 10 M2 (S2.2.1 72) (nI 0) (P2.kar l72 rfl) (by decide)) rfl rfl (Nat.le_of_ble_eq_true rfl) (by decide) (by decide) (by decide) (by decide) (fun v M3 hq => ?_)
  obtain ⟨rfl, rfl⟩ := hq
  refine g_abs (fun M' => ∃ S3, Pic G ad nr S3 M' ∧ Fr ad nr M M' ∧ arI S2 S3 72 (fillf 10 (nI 0) (S2.2.1 72))) ⟨_, P2.ar l72 _ rfl, F2.st (t := 2) (k := 72) l72, rfl, rfl, rfl⟩ (fun M3 ⟨S3, P3, F3, A3⟩ => ?_)
  have o3 : S3.2.2 4 = nI 0 := by rw [A3.2.2, A2.at]
  show GW G X 9 M3 0 0 18 _ []
  refine g_aload_n C dX4_through_18 rfl ?_
  refine g_iload_n C dX4_through_19 rfl ?_
  refine g_iload C dX4_through_20 rfl ?_
  refine g_callV (ci := 4) C dX4_through_22 cw_X4_40 rfl (c_openTree G ad nr S3 M3 P3 0 (nI n) (nI c) (by decide) o3) P3.kwk rfl rfl (Nat.le_of_ble_eq_true rfl) (by decide) (by decide) (by decide) (by decide) (fun v M4 hq => ?_)
  obtain ⟨rfl, S4, P4, F4, A4⟩ := hq
  show GW G X 9 M4 0 0 25 _ []
  refine l_through (fr := 0) (lo := 0) (S := S) (M := M) C hg hnr hR hw (fun b S' M1 pc hpc P1 F1 I1 ls => ?_) 500 0 S4 M4 (by omega) P4 (F3.tr F4) ⟨(A1.T (Or.inl rfl)).tr ((A2.T (Or.inr rfl)).tr ((A3.T (by omega)).tr A4.T)), ?_, ?_, fun j hj => ?_, fun s hs => absurd hs (Nat.not_lt_zero s), fun r hr => ?_⟩ ⟨DOk_0 hg hT, by show 0 + 1 ≤ 500; omega, fun s hs => absurd hs (Nat.not_lt_zero s)⟩
  · refine rt (some (.int (bI b))) M1 _ _ _ ls (fm_retZ (bI_01 b) ?_) ⟨b, S', rfl, P1, F1, I1⟩ (Nat.le_refl _) (Nat.le_refl _)
    rcases hpc with rfl | rfl
    · exact dX4_through_158
    · exact dX4_through_200
  · rw [A4.2.2.2.2, va_up_ne _ _ (by decide), A3.2.2, A2.ne (by decide), A1.at]
  · rw [A4.2.2.2.2, va_up_self]; rfl
  · have e : j = 0 := by have : j < 1 := hj; omega
    subst e
    rw [A4.2.2.1, A4.2.2.2.1, pk_us, pk_us]
    exact ⟨rfl, rfl⟩
  · rw [A4.2.1 72 (by decide) (by decide), A3.at]
    show (if r < 10 then _ else _) = _
    rw [if_pos hr]; rfl
