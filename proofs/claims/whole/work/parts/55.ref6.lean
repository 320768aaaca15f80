/-! THE REFERENCE: write -/
/-- the same but for what write changes -/
def eqV (S S' : Rs) : Prop := (∀ i, i < 4 → S'.2 i = S.2 i) ∧ ∀ k, k = 1 ∨ k = 2 ∨ k = 3 ∨ k = 4 ∨ k = 6 → S'.1 k = S.1 k
theorem eqV.rf {S : Rs} : eqV S S := ⟨fun _ _ => rfl, fun _ _ => rfl⟩
theorem eqV.tr {S S' S'' : Rs} (h : eqV S S') (h2 : eqV S' S'') : eqV S S'' := ⟨fun i hi => (h2.1 i hi).trans (h.1 i hi), fun k hk => (h2.2 k hk).trans (h.2 k hk)⟩
theorem raI.V {S S' : Rs} {j : Nat} {f : Nat → Int32} (h : raI S S' j f) (hj : 7 ≤ j) : eqV S S' := ⟨fun i _ => by rw [h.2], fun k hk => h.ne (by omega)⟩
theorem rsI.V {S S' : Rs} {j : Nat} {x : Int32} (h : rsI S S' j x) (hj : 4 ≤ j) : eqV S S' := ⟨fun i hi => h.ne (by omega), fun k _ => by rw [h.1]⟩
theorem eq5.V {S S' : Rs} (h : eq5 S S') : eqV S S' := ⟨fun i _ => by rw [h.1], fun k hk => h.2 k (by omega)⟩
theorem eq9.V {S S' : Rs} (h : eq9 S S') : eqV S S' := ⟨fun i hi => h.1 i (by omega), fun k hk => h.2 k (by omega)⟩
theorem eqV.ry {a : Ab} {S S' : Rs} (h : eqV S S') (hy : ryI a S) : ryI a S' := hy.of (h.1 1 (by decide)) (h.2 1 (by omega)) (h.2 2 (by omega))
theorem eqV.RR {a : Ab} {S S' : Rs} (h : eqV S S') (hR : RR a S) : RR a S' := hR.of (fun i hi => h.1 i (by omega)) (fun k hk => h.2 k hk)
/-- the walk behind t steps -/
def wrI (a : Ab) (n c : Nat) (S' : Rs) (t : Nat) : Prop := S'.2 4 = nI t ∧ S'.2 5 = nI (dh (gO a) n c t) ∧ (∀ j, j < dh (gO a) n c t → S'.1 9 j = nI (512 * (Ds (gO a) n c t).2.1 j + (Ds (gO a) n c t).2.2 j)) ∧ (∀ s, s < t → S'.1 7 s = nI (tr (gO a) n c s)) ∧ ∀ r, r < 10 → S'.1 8 r = nI (us (gO a) n c t r)
def wrG (g : Gr) (n c t : Nat) : Prop := DOk g n c t ∧ t ≤ 500 ∧ dh g n c t ≤ 1 + 3 * t ∧ ∀ s, s < t → 0 < dh g n c s ∧ us g n c s (tr g n c s) < 50
theorem wr_us {g : Gr} {n c t : Nat} (h : ∀ s, s < t → 0 < dh g n c s ∧ us g n c s (tr g n c s) < 50) (r : Nat) : ∀ s, s ≤ t → us g n c s r ≤ 50 := by
  intro s
  induction s with
  | zero => exact fun _ => Nat.zero_le _
  | succ s ih =>
    intro hs
    have h1 := ih (by omega)
    rw [us_s]
    by_cases he : tr g n c s = r
    · rw [if_pos he]
      have := (h s (by omega)).2
      rw [he] at this
      omega
    · rw [if_neg he]; exact h1
theorem wr_gt {g : Gr} {n c t T : Nat} (h : ∀ s, s < t → 0 < dh g n c s ∧ us g n c s (tr g n c s) < 50) (hp : 0 < dh g n c t) (hT : Gd g n c T) : t < T := by
  refine Nat.lt_of_not_le (fun z => ?_)
  by_cases he : T = t
  · subst he; have := hT.1; omega
  · have := (h T (by omega)).1; have := hT.1; omega
def wrA (a : Ab) (n c : Nat) (S' : Rs) (b : Bool) : Prop := (b = true → ∃ T, Gd (gO a) n c T ∧ S'.2 4 = nI T ∧ (∀ s, s < T → S'.1 7 s = nI (tr (gO a) n c s)) ∧ ∀ r, r < 10 → S'.1 8 r = nI (us (gO a) n c T r)) ∧ (b = false → ¬ ∃ T, Gd (gO a) n c T)

set_option maxHeartbeats 4000000 in
set_option maxRecDepth 100000 in
theorem l_wr1 {G : fm_G} {rd : Nat → Nat} {S : Rs} {M : fm_M} {X : fm_X} {fr lo mc ms : Nat} {n c : Nat} (C : GC G X RX6 cX6_write 5 (fr + 4) (lo + 99) mc ms) (kk : ∀ S' M1, RPic G rd S' M1 → RFr rd M M1 → eqV S S' → S'.2 = S.2 → (∀ r, r < 10 → S'.1 8 r = nI 0) → GW G X 5 M1 0 0 26 [(0, .ref (rd 0)), (1, .int (nI n)), (2, .int (nI c))] []) : ∀ d i S1 M1, i + d = 10 → RPic G rd S1 M1 → RFr rd M M1 → eqV S S1 → S1.2 = S.2 → (∀ r, r < i → S1.1 8 r = nI 0) → GW G X 5 M1 0 0 7 [(0, .ref (rd 0)), (1, .int (nI n)), (2, .int (nI c)), (3, .int (nI i))] [] := by
  intro d
  induction d with
  | zero =>
    intro i S1 M1 hi P1 F1 E1 e2 I1
    have e : i = 10 := by omega
    subst e
    refine g_iload_n C dX6_write_7 rfl ?_
    refine g_bipush C dX6_write_8 (v := nI 10) rfl ?_
    refine g_icmp_geN C dX6_write_10 (tgt := 26) (by decide) (by decide) (by decide) (fun hb => g_loc [0, 1, 2] rfl (kk S1 M1 P1 F1 E1 e2 I1)) (fun hb => absurd hb (by omega))
  | succ d ih =>
    intro i S1 M1 hi P1 F1 E1 e2 I1
    refine g_iload_n C dX6_write_7 rfl ?_
    refine g_bipush C dX6_write_8 (v := nI 10) rfl ?_
    refine g_icmp_geN C dX6_write_10 (tgt := 26) (by decide) (by omega) (by decide) (fun hb => absurd hb (by omega)) (fun hb => ?_)
    refine g_aload_n C dX6_write_13 rfl ?_
    refine g_getf C fl_X6_36 dX6_write_14 P1.ob rfl ?_
    refine g_iload_n C dX6_write_17 rfl ?_
    refine g_iconst C dX6_write_18 (v := nI 0) rfl ?_
    refine g_iastN C dX6_write_19 P1.k8 (show i < 10 by omega) (by decide) ?_
    refine g_abs (fun M' => ∃ S2, RPic G rd S2 M' ∧ RFr rd M M' ∧ raI S1 S2 8 (upd (S1.1 8) i (nI 0))) ⟨_, P1.ar (n := 10) (by decide) (by decide) _ rfl, F1.st (k := 8) (by decide), rfl, rfl⟩ (fun M3 ⟨S3, P3, F3, A3⟩ => ?_)
    refine g_inc1 C dX6_write_20 rfl (by decide) ?_
    refine g_goto C dX6_write_23 (tgt := 7) (by decide) ?_
    refine ih (i + 1) S3 M3 (by omega) P3 F3 (E1.tr (A3.V (by decide))) (A3.2.trans e2) (fun j hj => ?_)
    rw [A3.at]
    by_cases he : j = i
    · subst he; exact pk_us
    · rw [pk_un he]; exact I1 j (by omega)

set_option maxHeartbeats 4000000 in
set_option maxRecDepth 100000 in
theorem l_wr2 {G : fm_G} {rd : Nat → Nat} {S : Rs} {M : fm_M} {X : fm_X} {fr lo mc ms : Nat} {a : Ab} {n c : Nat} (C : GC G X RX6 cX6_write 5 (fr + 4) (lo + 99) mc ms) (ha : AbOk a) (hy : ryI a S) (hw : hwI (gO a) (S.1 4)) (kk : ∀ b S' M1 pc, (pc = 110 ∨ pc = 158) → RPic G rd S' M1 → RFr rd M M1 → eqV S S' → wrA a n c S' b → ∀ ls, GW G X 5 M1 0 0 pc ls [.int (bI b)]) : ∀ d t S1 M1, t + d = 501 → RPic G rd S1 M1 → RFr rd M M1 → eqV S S1 → wrI a n c S1 t → wrG (gO a) n c t → GW G X 5 M1 0 0 44 [(0, .ref (rd 0)), (1, .int (nI n)), (2, .int (nI c))] [] := by
  have h10 := ha.1
  intro d
  induction d with
  | zero =>
    intro t S1 M1 ht P1 F1 E1 I1 J1
    have := J1.2.1
    omega
  | succ d ih =>
    intro t S1 M1 ht P1 F1 E1 I1 J1
    obtain ⟨i1, i2, i3, i4, i5⟩ := I1
    obtain ⟨j1, j2, j3, j4⟩ := J1
    by_cases h0 : dh (gO a) n c t = 0
    · have e0 : S1.2 5 = nI 0 := by rw [i2, h0]
      refine g_aload_n C dX6_write_44 rfl ?_
      refine g_getf C fl_X6_104 dX6_write_45 P1.ob rfl ?_
      rw [e0]
      refine g_if_le C dX6_write_48 (tgt := 157) (by decide) (fun hb => ?_) (fun hb => absurd (by decide) hb)
      refine g_iconst C dX6_write_157 (v := nI 1) rfl ?_
      exact kk true S1 M1 158 (Or.inr rfl) P1 F1 E1 ⟨fun _ => ⟨t, ⟨h0, j2, j4⟩, i1, i4, i5⟩, fun z => absurd z.symm Bool.false_ne_true⟩ _
    have hp : 0 < dh (gO a) n c t := by omega
    obtain ⟨t1, t2, t3⟩ := DOk_top j1 hp
    obtain ⟨b1, b2, b3⟩ := rootF_at t3
    have b1 : tr (gO a) n c t < a.nR := b1
    have b2 : a.lf (tr (gO a) n c t) = dN (gO a) n c t := b2
    obtain ⟨k, hk0⟩ : ∃ k, hgt (gO a) (dN (gO a) n c t) (dC (gO a) n c t) = k + 1 := by
      obtain ⟨h, hh⟩ := t3
      obtain ⟨j, z, _⟩ := hgt_s hh
      exact ⟨j, z⟩
    have hk : k < 4000 := by
      rcases hw _ _ t1 t2 with ⟨_, _, z⟩ | ⟨z, _⟩
      · rw [hk0] at z; omega
      · exact absurd t3 z
    have hle := wr_us j4 (tr (gO a) n c t) t (Nat.le_refl t)
    have hsz := nz_le (a.sy (tr (gO a) n c t)) 4
    have etop : S1.1 9 (dh (gO a) n c t - 1) = nI (512 * dN (gO a) n c t + dC (gO a) n c t) := i3 _ (by omega)
    refine g_aload_n C dX6_write_44 rfl ?_
    refine g_getf C fl_X6_104 dX6_write_45 P1.ob rfl ?_
    rw [i2]
    refine g_if_le C dX6_write_48 (tgt := 157) (by decide) (fun hb => absurd hb (nI_nle hp (by omega))) (fun hb => ?_)
    refine g_aload_n C dX6_write_51 rfl ?_
    refine g_dup C dX6_write_52 rfl ?_
    refine g_getf C fl_X6_104 dX6_write_53 P1.ob rfl ?_
    rw [i2]
    refine g_iconst C dX6_write_56 (v := nI 1) rfl ?_
    refine g_isub C dX6_write_57 ?_
    refine g_topI (pk_sub hp) ?_
    refine g_putf C fl_X6_104 rfl dX6_write_58 P1.ob rfl rfl (Nat.le_of_ble_eq_true rfl) ?_
    refine g_abs (fun M' => ∃ S2, RPic G rd S2 M' ∧ RFr rd M M' ∧ rsI S1 S2 5 (nI (dh (gO a) n c t - 1))) ⟨_, P1.sc 5 _ rfl, F1.st (k := 0) (by decide), rfl, rfl⟩ (fun M2 ⟨S2, P2, F2, A2⟩ => ?_)
    have e9 : S2.1 9 (dh (gO a) n c t - 1) = nI (512 * dN (gO a) n c t + dC (gO a) n c t) := by rw [A2.1]; exact etop
    have V2 : eqV S S2 := E1.tr (A2.V (by decide))
    have y2 := V2.ry hy
    have w2 : hwI (gO a) (S2.1 4) := by rw [V2.2 4 (by omega)]; exact hw
    refine g_aload_n C dX6_write_61 rfl ?_
    refine g_getf C fl_X6_39 dX6_write_62 P2.ob rfl ?_
    refine g_aload_n C dX6_write_65 rfl ?_
    refine g_getf C fl_X6_104 dX6_write_66 P2.ob rfl ?_
    rw [A2.at]
    refine g_ialdN C dX6_write_69 P2.k9 (show dh (gO a) n c t - 1 < 2600 by omega) (by decide) ?_
    rw [e9]
    refine g_istore_n C dX6_write_70 (by decide) ?_
    refine g_aload_n C dX6_write_71 rfl ?_
    refine g_iload_n C dX6_write_72 rfl ?_
    refine g_sipush C dX6_write_73 (v := nI 512) rfl ?_
    refine g_idiv C dX6_write_76 (by decide) ?_
    refine g_topI (pk_div (a := 512 * dN (gO a) n c t + dC (gO a) n c t) (d := 512) (by omega) (by decide) (by decide)) ?_
    refine g_iload_n C dX6_write_77 rfl ?_
    refine g_sipush C dX6_write_78 (v := nI 512) rfl ?_
    refine g_irem C dX6_write_81 (by decide) ?_
    refine g_topI (pk_rem (a := 512 * dN (gO a) n c t + dC (gO a) n c t) (d := 512) (by omega) (by decide) (by decide)) ?_
    rw [show (512 * dN (gO a) n c t + dC (gO a) n c t) / 512 = dN (gO a) n c t by omega, show (512 * dN (gO a) n c t + dC (gO a) n c t) % 512 = dC (gO a) n c t by omega]
    refine g_callV (ci := 6) C dX6_write_82 cw_X6_110 rfl (r_rootOf G rd S2 M2 P2 a ha y2 w2 (dN (gO a) n c t) (dC (gO a) n c t) k t1 t2 hk hk0 t3) P2.ob rfl rfl (Nat.le_of_ble_eq_true rfl) (by omega) (by omega) (by omega) (by omega) (fun u M3 hq => ?_)
    obtain ⟨rfl, S3, P3, F3, E3, R3⟩ := hq
    have V3 : eqV S S3 := V2.tr E3.V
    have g4 : S3.2 4 = nI t := by rw [E3.1, A2.ne (by decide)]; exact i1
    have g5 : S3.2 5 = nI (dh (gO a) n c t - 1) := by rw [E3.1, A2.at]
    have g7 : S3.1 7 = S1.1 7 := by rw [E3.2 7 (by decide), A2.1]
    have g8 : S3.1 8 = S1.1 8 := by rw [E3.2 8 (by decide), A2.1]
    have g9 : S3.1 9 = S1.1 9 := by rw [E3.2 9 (by decide), A2.1]
    have u8 : S3.1 8 (tr (gO a) n c t) = nI (us (gO a) n c t (tr (gO a) n c t)) := by rw [g8]; exact i5 _ (by omega)
    have no : (t = 500 ∨ us (gO a) n c t (tr (gO a) n c t) = 50) → ∀ ls, GW G X 5 M3 0 0 109 ls [] := by
      intro hno ls
      refine g_iconst C dX6_write_109 (v := nI 0) rfl ?_
      refine kk false S3 M3 110 (Or.inl rfl) P3 (F2.tr F3) V3 ⟨fun z => absurd z Bool.false_ne_true, fun _ ⟨T, hT⟩ => ?_⟩ _
      have hlt := wr_gt j4 hp hT
      rcases hno with hno | hno
      · have := hT.2.1; omega
      · have := (hT.2.2 t hlt).2; omega
    show GW G X 5 M3 0 0 85 _ [.int (nI (tr (gO a) n c t))]
    refine g_istore C dX6_write_85 (by decide) ?_
    refine g_aload_n C dX6_write_87 rfl ?_
    refine g_getf C fl_X6_107 dX6_write_88 P3.ob rfl ?_
    rw [g4]
    refine g_sipush C dX6_write_91 (v := nI 500) rfl ?_
    refine g_icmp_eqN C dX6_write_94 (tgt := 109) (by decide) (by omega) (by decide) (fun h1 => no (Or.inl h1) _) (fun h1 => ?_)
    refine g_aload_n C dX6_write_97 rfl ?_
    refine g_getf C fl_X6_36 dX6_write_98 P3.ob rfl ?_
    refine g_iload C dX6_write_101 rfl ?_
    refine g_ialdN C dX6_write_103 P3.k8 (show tr (gO a) n c t < 10 by omega) (by decide) ?_
    rw [u8]
    refine g_bipush C dX6_write_104 (v := nI 50) rfl ?_
    refine g_icmp_neN C dX6_write_106 (tgt := 111) (by decide) (by omega) (by decide) (fun h2 => ?_) (fun h2 => no (Or.inr h2) _)
    refine g_aload_n C dX6_write_111 rfl ?_
    refine g_getf C fl_X6_33 dX6_write_112 P3.ob rfl ?_
    refine g_aload_n C dX6_write_115 rfl ?_
    refine g_getf C fl_X6_107 dX6_write_116 P3.ob rfl ?_
    rw [g4]
    refine g_iload C dX6_write_119 rfl ?_
    refine g_iastN C dX6_write_121 P3.k7 (show t < 501 by omega) (by decide) ?_
    refine g_abs (fun M' => ∃ S4, RPic G rd S4 M' ∧ RFr rd M M' ∧ raI S3 S4 7 (upd (S3.1 7) t (nI (tr (gO a) n c t)))) ⟨_, P3.ar (n := 501) (by decide) (by decide) _ rfl, (F2.tr F3).st (k := 7) (by decide), rfl, rfl⟩ (fun M4 ⟨S4, P4, F4, A4⟩ => ?_)
    have g44 : S4.2 4 = nI t := by rw [A4.2]; exact g4
    refine g_aload_n C dX6_write_122 rfl ?_
    refine g_dup C dX6_write_123 rfl ?_
    refine g_getf C fl_X6_107 dX6_write_124 P4.ob rfl ?_
    rw [g44]
    refine g_iconst C dX6_write_127 (v := nI 1) rfl ?_
    refine g_iadd C dX6_write_128 ?_
    refine g_topI (nI_add t 1) ?_
    refine g_putf C fl_X6_107 rfl dX6_write_129 P4.ob rfl rfl (Nat.le_of_ble_eq_true rfl) ?_
    refine g_abs (fun M' => ∃ S5, RPic G rd S5 M' ∧ RFr rd M M' ∧ rsI S4 S5 4 (nI (t + 1))) ⟨_, P4.sc 4 _ rfl, F4.st (k := 0) (by decide), rfl, rfl⟩ (fun M5 ⟨S5, P5, F5, A5⟩ => ?_)
    have u85 : S5.1 8 (tr (gO a) n c t) = nI (us (gO a) n c t (tr (gO a) n c t)) := by rw [A5.1, A4.ne (by decide)]; exact u8
    refine g_aload_n C dX6_write_132 rfl ?_
    refine g_getf C fl_X6_36 dX6_write_133 P5.ob rfl ?_
    refine g_iload C dX6_write_136 rfl ?_
    refine g_dup2 C dX6_write_138 rfl rfl ?_
    refine g_ialdN C dX6_write_139 P5.k8 (show tr (gO a) n c t < 10 by omega) (by decide) ?_
    rw [u85]
    refine g_iconst C dX6_write_140 (v := nI 1) rfl ?_
    refine g_iadd C dX6_write_141 ?_
    refine g_topI (nI_add _ 1) ?_
    refine g_iastN C dX6_write_142 P5.k8 (show tr (gO a) n c t < 10 by omega) (by decide) ?_
    refine g_abs (fun M' => ∃ S6, RPic G rd S6 M' ∧ RFr rd M M' ∧ raI S5 S6 8 (upd (S5.1 8) (tr (gO a) n c t) (nI (us (gO a) n c t (tr (gO a) n c t) + 1)))) ⟨_, P5.ar (n := 10) (by decide) (by decide) _ rfl, F5.st (k := 8) (by decide), rfl, rfl⟩ (fun M6 ⟨S6, P6, F6, A6⟩ => ?_)
    have V6 : eqV S S6 := V3.tr ((A4.V (by decide)).tr ((A5.V (by decide)).tr (A6.V (by decide))))
    have g65 : S6.2 5 = nI (dh (gO a) n c t - 1) := by rw [A6.2, A5.ne (by decide), A4.2]; exact g5
    have g655 : S6.1 5 = S3.1 5 := by rw [A6.ne (by decide), A5.1, A4.ne (by decide)]
    have hk1 : hgt (gO a) (a.lf (tr (gO a) n c t)) (dC (gO a) n c t) = k + 1 := by rw [b2]; exact hk0
    have hE1 : EH (gO a) (tr (gO a) n c t) 0 (k + 1) (dC (gO a) n c t) := by rw [← hk0]; exact b3
    refine g_aload_n C dX6_write_143 rfl ?_
    refine g_iload C dX6_write_144 rfl ?_
    refine g_iload_n C dX6_write_146 rfl ?_
    refine g_sipush C dX6_write_147 (v := nI 512) rfl ?_
    refine g_irem C dX6_write_150 (by decide) ?_
    refine g_topI (pk_rem (a := 512 * dN (gO a) n c t + dC (gO a) n c t) (d := 512) (by omega) (by decide) (by decide)) ?_
    rw [show (512 * dN (gO a) n c t + dC (gO a) n c t) % 512 = dC (gO a) n c t by omega]
    refine g_callV (ci := 6) C dX6_write_151 cw_X6_113 rfl (r_spread G rd S6 M6 P6 a ha (V6.ry hy) (by rw [V6.2 4 (by omega)]; exact hw) (tr (gO a) n c t) (dC (gO a) n c t) k (dh (gO a) n c t - 1) b1 t2 hk hk1 (by rw [b2]; exact t3) hE1 (by rw [g655]; exact R3) (by omega) g65) P6.ob rfl rfl (Nat.le_of_ble_eq_true rfl) (by omega) (by omega) (by omega) (by omega) (fun u M7 hq => ?_)
    obtain ⟨rfl, S7, P7, F7, E7, e7, I7, I8⟩ := hq
    show GW G X 5 M7 0 0 154 _ []
    refine g_goto C dX6_write_154 (tgt := 44) (by decide) ?_
    refine g_loc [0, 1, 2] rfl ?_
    have hsz2 : (gO a).sz (tr (gO a) n c t) = nz (a.sy (tr (gO a) n c t)) 4 := rfl
    refine ih (t + 1) S7 M7 (by omega) P7 (F6.tr F7) (V6.tr E7.V) ⟨?_, ?_, fun j hj => ?_, fun s hs => ?_, fun r hr => ?_⟩ ⟨DOk_s (gO_ok ha) j1 hp, by omega, ?_, fun s hs => ?_⟩
    · rw [E7.1 4 (by decide), A6.2, A5.at]
    · rw [e7, dh_s, hsz2]
    · rw [dh_s, hsz2] at hj
      by_cases hkj : j < dh (gO a) n c t - 1
      · have e1 : (Ds (gO a) n c (t + 1)).2.1 j = (Ds (gO a) n c t).2.1 j := if_pos hkj
        have e2 : (Ds (gO a) n c (t + 1)).2.2 j = (Ds (gO a) n c t).2.2 j := if_pos hkj
        rw [e1, e2, I7 j hkj, A6.ne (by decide), A5.1, A4.ne (by decide), g9]
        exact i3 j (by omega)
      · have e1 : (Ds (gO a) n c (t + 1)).2.1 j = (gO a).pt (tr (gO a) n c t) ((gO a).sz (tr (gO a) n c t) - 1 - (j - (dh (gO a) n c t - 1))) := if_neg hkj
        have e2 : (Ds (gO a) n c (t + 1)).2.2 j = chl (gO a) (tr (gO a) n c t) (hgt (gO a) (dN (gO a) n c t) (dC (gO a) n c t)) (dC (gO a) n c t) ((gO a).sz (tr (gO a) n c t) - 1 - (j - (dh (gO a) n c t - 1))) := if_neg hkj
        have q := I8 (j - (dh (gO a) n c t - 1)) (by omega)
        rw [show dh (gO a) n c t - 1 + (j - (dh (gO a) n c t - 1)) = j by omega] at q
        rw [e1, e2, q, hk0]
        rfl
    · rw [E7.2 7 (by decide), A6.ne (by decide), A5.1, A4.at, g7]
      by_cases he : s = t
      · subst he; exact pk_us
      · rw [pk_un he]; exact i4 s (by omega)
    · rw [E7.2 8 (by decide), A6.at, us_s, A5.1, A4.ne (by decide), g8]
      by_cases he : tr (gO a) n c t = r
      · subst he; rw [pk_us, if_pos rfl]
      · rw [pk_un (fun z => he z.symm), if_neg he]; exact i5 r hr
    · rw [dh_s, hsz2]; omega
    · by_cases he : s = t
      · subst he; exact ⟨hp, by omega⟩
      · exact j4 s (by omega)

set_option maxHeartbeats 4000000 in
set_option maxRecDepth 100000 in
theorem r_write (G : fm_G) (rd : Nat → Nat) (S : Rs) (M : fm_M) (Pi : RPic G rd S M) (a : Ab) (ha : AbOk a) (hy : ryI a S) (hw : hwI (gO a) (S.1 4)) (n c : Nat) (hn : n < 5) (hc : c < 512) (hT : Tr (gO a) n c) : fm_Ct G yX6_write cX6_write 5 (some .boolean) 4 99 0 0 [.ref (rd 0), .int (nI n), .int (nI c)] M (fun v M1 => ∃ b S', v = some (.int (bI b)) ∧ RPic G rd S' M1 ∧ RFr rd M M1 ∧ eqV S S' ∧ wrA a n c S' b) := by
  refine fm_head (by decide) (Nat.le_of_ble_eq_true rfl) rfl (fun X C N0 rt => ?_)
  refine g_aload_n C dX6_write_0 rfl ?_
  refine g_iconst C dX6_write_1 (v := nI 0) rfl ?_
  refine g_putf C fl_X6_107 rfl dX6_write_2 Pi.ob rfl rfl (Nat.le_of_ble_eq_true rfl) ?_
  refine g_abs (fun M' => ∃ S1, RPic G rd S1 M' ∧ RFr rd M M' ∧ rsI S S1 4 (nI 0)) ⟨_, Pi.sc 4 _ rfl, RFr.rf.st (k := 0) (by decide), rfl, rfl⟩ (fun M1 ⟨S1, P1, F1, A1⟩ => ?_)
  refine g_iconst C dX6_write_5 (v := nI 0) rfl ?_
  refine g_istore_n C dX6_write_6 (by decide) ?_
  refine l_wr1 (fr := 0) (lo := 0) (S := S1) (M := M1) C (fun S2 M2 P2 F2 E2 e2 I2 => ?_) 10 0 S1 M1 (by omega) P1 RFr.rf eqV.rf rfl (fun r hr => absurd hr (Nat.not_lt_zero r))
  refine g_aload_n C dX6_write_26 rfl ?_
  refine g_iconst C dX6_write_27 (v := nI 1) rfl ?_
  refine g_putf C fl_X6_104 rfl dX6_write_28 P2.ob rfl rfl (Nat.le_of_ble_eq_true rfl) ?_
  refine g_abs (fun M' => ∃ S3, RPic G rd S3 M' ∧ RFr rd M M' ∧ rsI S2 S3 5 (nI 1)) ⟨_, P2.sc 5 _ rfl, (F1.tr F2).st (k := 0) (by decide), rfl, rfl⟩ (fun M3 ⟨S3, P3, F3, A3⟩ => ?_)
  refine g_aload_n C dX6_write_31 rfl ?_
  refine g_getf C fl_X6_39 dX6_write_32 P3.ob rfl ?_
  refine g_iconst C dX6_write_35 (v := nI 0) rfl ?_
  refine g_sipush C dX6_write_36 (v := nI 512) rfl ?_
  refine g_iload_n C dX6_write_39 rfl ?_
  refine g_imul C dX6_write_40 ?_
  refine g_topI (pk_mul 512 n) ?_
  refine g_iload_n C dX6_write_41 rfl ?_
  refine g_iadd C dX6_write_42 ?_
  refine g_topI (nI_add _ _) ?_
  refine g_iastN C dX6_write_43 P3.k9 (show 0 < 2600 by decide) (by decide) ?_
  refine g_abs (fun M' => ∃ S4, RPic G rd S4 M' ∧ RFr rd M M' ∧ raI S3 S4 9 (upd (S3.1 9) 0 (nI (512 * n + c)))) ⟨_, P3.ar (n := 2600) (by decide) (by decide) _ rfl, F3.st (k := 9) (by decide), rfl, rfl⟩ (fun M4 ⟨S4, P4, F4, A4⟩ => ?_)
  have V4 : eqV S S4 := (A1.V (by decide)).tr (E2.tr ((A3.V (by decide)).tr (A4.V (by decide))))
  refine l_wr2 (fr := 0) (lo := 0) (S := S) (M := M) C ha hy hw (fun b S' M' pc hpc P' F' E' I' ls => ?_) 501 0 S4 M4 (by omega) P4 F4 V4 ⟨?_, ?_, fun j hj => ?_, fun s hs => absurd hs (Nat.not_lt_zero s), fun r hr => ?_⟩ ⟨DOk_0 (gO_ok ha) hT, by omega, Nat.le_refl _, fun s hs => absurd hs (Nat.not_lt_zero s)⟩
  · refine rt (some (.int (bI b))) M' _ _ _ ls (fm_retZ (bI_01 b) ?_) ⟨b, S', rfl, P', F', E', I'⟩ (Nat.le_refl _) (Nat.le_refl _)
    rcases hpc with rfl | rfl
    · exact dX6_write_110
    · exact dX6_write_158
  · rw [A4.2, A3.ne (by decide), e2, A1.at]
  · rw [A4.2, A3.at]; rfl
  · have e : j = 0 := by have : j < 1 := hj; omega
    subst e
    rw [A4.at, pk_us]; rfl
  · rw [A4.ne (by decide), A3.1]; exact I2 r hr

