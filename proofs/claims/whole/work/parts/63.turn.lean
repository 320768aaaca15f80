/-! THE LAW: one turn -/
theorem LC.new {G : fm_G} {M M1 : fm_M} {o : Nat} {rd : Nat → Nat} {S' : Rs} {a : Ab} {f : Nat → Int64} {ad ad' : Nat → Nat → Nat} {nr nr' : Nat} {S1 : Cs} (h5 : RPic G rd S' M) (h6 : M o = some (fm_L G 1 f)) (h7 : ap3 ad nr rd o) (hP : Pic G ad' nr' S1 M1) (e : ad' 7 0 = ad 7 0) (hl : ∀ t k, liv nr' t k → (liv nr t k ∧ ad' t k = ad t k) ∨ M (ad' t k) = none) (hk : ∀ x e, (∀ t k, liv nr t k → x ≠ ad t k) → M x = some e → M1 x = some e) (h3 : CR a S1) (h4 : a.nR ≤ nr') : LC G M1 (ad 7 0) o rd S' a f := by
  refine ⟨ad', nr', S1, e, hP, h3, h4, ⟨fun j hj => hk _ _ (fun t k hl z => h7.1 t k j hl hj z.symm) (h5.1 j hj), h5.2⟩, hk _ _ (fun t k hl z => h7.2.1 t k hl z.symm) h6, fun t k j hlv hj z => ?_, fun t k hlv z => ?_, h7.2.2⟩
  · rcases hl t k hlv with ⟨h8, h9⟩ | h8
    · exact h7.1 t k j h8 hj (h9.symm.trans z)
    · rw [z, h5.1 j hj] at h8
      exact absurd h8 (fun q => nomatch q)
  · rcases hl t k hlv with ⟨h8, h9⟩ | h8
    · exact h7.2.1 t k h8 (h9.symm.trans z)
    · rw [z, h6] at h8
      exact absurd h8 (fun q => nomatch q)
/-- what the class's call gives: an answer, and the law's picture -/
def NP (G : fm_G) (x o : Nat) (rd : Nat → Nat) (S1 : Rs) (a1 : Ab) (VC : Int32 → Prop) (v : Option Value) (M1 : fm_M) : Prop := ∃ i f, v = some (.int i) ∧ VC i ∧ LC G M1 x o rd S1 a1 f
theorem LC.oo {G : fm_G} {M : fm_M} {x o : Nat} {rd : Nat → Nat} {S' : Rs} {a : Ab} {f : Nat → Int64} (h : LC G M x o rd S' a f) : M o = some (fm_L G 1 f) := by
  obtain ⟨ad, nr, S, -, -, -, -, -, h5, -⟩ := h
  exact h5
theorem NP0 {G : fm_G} {x o : Nat} {rd : Nat → Nat} {S1 : Rs} {a1 : Ab} {VC : Int32 → Prop} (v : Option Value) (M1 : fm_M) (h : NP G x o rd S1 a1 VC v M1) : (∃ i : Int32, v = some (.int i)) ∧ ∃ f, M1 o = some (fm_L G 1 f) := by
  obtain ⟨i, f, h1, -, h2⟩ := h
  exact ⟨⟨i, h1⟩, f, h2.oo⟩
theorem NP1 {G : fm_G} {x o : Nat} {rd : Nat → Nat} {S1 : Rs} {a1 : Ab} {VC : Int32 → Prop} (M1 : fm_M) (h : ∃ (i : Int32) (M0 : fm_M) (f : Nat → Int64), NP G x o rd S1 a1 VC (some (.int i)) M0 ∧ M0 o = some (fm_L G 1 f) ∧ M1 = fm_set M0 o (fm_L G 1 (vp_updL f 0 i.toInt64))) : ∃ f, LC G M1 x o rd S1 a1 f ∧ (0 = 0 → ∃ z : Int32, f 0 = z.toInt64 ∧ VC z) := by
  obtain ⟨i, M0, f, ⟨i', f', e, h1, h2⟩, -, rfl⟩ := h
  have e : i = i' := by injection e with e; injection e
  subst e
  exact ⟨_, h2.set _, fun _ => ⟨i, updL0 f _, h1⟩⟩
/-- what the class's throw gives -/
theorem XP {G : fm_G} {o : Nat} {rd : Nat → Nat} {S' : Rs} {a : Ab} {f : Nat → Int64} {ad : Nat → Nat → Nat} {nr code : Nat} {S : Cs} {M : fm_M} {VC : Int32 → Prop} (hR : RPic G rd S' M) (ho : M o = some (fm_L G 1 f)) (h7 : ap3 ad nr rd o) (hnr : a.nR ≤ nr) (hcd : 0 < code) (M1 : fm_M) (h : ∃ S1, Pic G ad nr S1 M1 ∧ Fr ad nr M M1 ∧ CR a S1) : ∃ f, LC G M1 (ad 7 0) o rd S' a f ∧ (code = 0 → ∃ z : Int32, f 0 = z.toInt64 ∧ VC z) := by
  obtain ⟨S1, h1, h2, h3⟩ := h
  exact ⟨f, LC.fr hR ho h7 h1 h2 h3 hnr, fun z => by omega⟩
theorem XP0 {G : fm_G} {o : Nat} {rd : Nat → Nat} {S' : Rs} {a : Ab} {f : Nat → Int64} {ad : Nat → Nat → Nat} {nr code : Nat} {S : Cs} {M : fm_M} {VC : Int32 → Prop} (hR : RPic G rd S' M) (ho : M o = some (fm_L G 1 f)) (h7 : ap3 ad nr rd o) (hnr : a.nR ≤ nr) (Pi : Pic G ad nr S M) (hCR : CR a S) (hcd : 0 < code) (M1 : fm_M) (h : M1 = M) : ∃ f, LC G M1 (ad 7 0) o rd S' a f ∧ (code = 0 → ∃ z : Int32, f 0 = z.toInt64 ∧ VC z) := by
  subst h
  exact ⟨f, LC.fr hR ho h7 Pi Fr.rf hCR hnr, fun z => by omega⟩
set_option maxHeartbeats 4000000 in
set_option maxRecDepth 100000 in
theorem v_rule {G : fm_G} {X : fm_X} (C : GCL G X) (HS : GS X) (hT : G.1.stackTraces = false) {b L : Nat} {xs : Nat → Int32} (P : GP X b L xs) (hL : L ≤ 3072) {M : fm_M} {i x mm o kc ks : Nat} {a : Ab} (hi : i + 6 ≤ L) (hc : kc + 34 ≤ room_1.cells) (hs : ks + 2686 ≤ room_1.slots) (hI : LI G M x mm o a) (kk : ∀ (a2 : Ab) (M2 : fm_M), LI G M2 x mm o a2 → GW G X 7 M2 (kc + 34) (ks + 2686) 755 (lwl b x mm o i) []) : GW G X 7 M kc ks 96 (lwl b x mm o i) [] := by
  obtain ⟨rd, S1, f, rfl, ⟨ad, nr, S, rfl, Pi, hCR, hnr, hR, ho, h7⟩, hRR, ha⟩ := hI
  have hob := Pi.klc
  by_cases hok : okN (xs (i + 1)) ∧ okS (xs (i + 2)) ∧ okS (xs (i + 3)) ∧ okS (xs (i + 4)) ∧ okS (xs (i + 5))
  · obtain ⟨⟨n, hn, q0⟩, ⟨k0, h0, q1⟩, ⟨k1, h1, q2⟩, ⟨k2, h2, q3⟩, ⟨k3, h3, q4⟩⟩ := hok
    have hf := f4_lt h0 h1 h2 h3
    by_cases h10 : a.nR = 10
    · have hok : okN (nI n) ∧ okS (dn k0) ∧ okS (dn k1) ∧ okS (dn k2) ∧ okS (dn k3) := ⟨⟨n, hn, rfl⟩, ⟨k0, h0, rfl⟩, ⟨k1, h1, rfl⟩, ⟨k2, h2, rfl⟩, ⟨k3, h3, rfl⟩⟩
      refine u_rule C HS P hL hi hc hs 2 (mc := 1) (ms := 6) (fr := 2) (lo := 42) (rd := rd) (S1 := S1) (a1 := a) (VC := fun _ => True) (VR := fun _ => True) (by decide) (by decide) (by decide) (by decide) (by decide) q0 q1 q2 q3 q4
        (w_rule_S (x_rule_full G hT ad nr S M Pi a ha hnr hCR n (f4 k0 k1 k2 k3) hn hf h10) hob (by decide) (by decide))
        (XP0 hR ho h7 hnr Pi hCR (by decide))
        (fun M1 hR1 => (r_rule_no G rd S1 M1 hR1 a ha hRR (nI n) (dn k0) (dn k1) (dn k2) (dn k3) (Or.inr h10)).mono (fun v M2 ⟨S2, e1, e2, e3, e4, e5⟩ => ⟨S2, _, e1, trivial, e2, e3, e4, by rw [e5, pB_t hok]; rfl⟩))
        (fun z => absurd z (by decide)) ha rfl kk
    · have h9 : a.nR < 10 := by have := ha.1; omega
      by_cases hN : a.nR < nr
      · skip
        refine u_rule C HS P hL hi hc hs 0 (mc := 0) (ms := 0) (fr := 2) (lo := 42) (rd := rd) (S1 := S1) (a1 := (abR a n (f4 k0 k1 k2 k3))) (VC := fun z => z = nI a.nR) (VR := fun z => z = nI a.nR) (by decide) (by decide) (by decide) (by decide) (by decide) q0 q1 q2 q3 q4
          (w_rule (o := o) ((c_rule_old G ad nr S M Pi a ha hN hCR n (f4 k0 k1 k2 k3) hn hf).mono (post' := NP G (ad 7 0) o rd S1 (abR a n (f4 k0 k1 k2 k3)) (fun z => z = nI a.nR)) (by rintro v M2 ⟨e1, S2, e2, e3, e4⟩; exact ⟨_, f, e1, rfl, LC.fr hR ho h7 e2 e3 e4 hN⟩)) hob NP0 (by decide) (by decide))
          (NP1)
          (fun M1 hR1 => (r_rule_ok G rd S1 M1 hR1 a ha hRR n (f4 k0 k1 k2 k3) hn hf h9).mono (fun v M2 ⟨S2, e1, e2, e3, e4, e5⟩ => ⟨S2, _, e1, rfl, e2, e3, e4, e5⟩))
          (fun _ z r e1 e2 => e1.trans e2.symm) (AbOk_rule ha h9 hn hf) rfl kk
      · have hE : a.nR = nr := by omega
        have h9' : nr < 10 := by omega
        refine u_rule C HS P hL hi hc hs 0 (mc := 33) (ms := 2680) (fr := 2) (lo := 42) (rd := rd) (S1 := S1) (a1 := (abR a n (f4 k0 k1 k2 k3))) (VC := fun z => z = nI a.nR) (VR := fun z => z = nI a.nR) (by decide) (by decide) (by decide) (by decide) (by decide) q0 q1 q2 q3 q4
          (w_rule (o := o) ((c_rule_new G ad nr S M Pi a ha hE h9' hCR n (f4 k0 k1 k2 k3) hn hf).mono (post' := NP G (ad 7 0) o rd S1 (abR a n (f4 k0 k1 k2 k3)) (fun z => z = nI a.nR)) (by rintro v M2 ⟨e1, ad2, S2, e2, e3, e4, e5, e6⟩; exact ⟨_, f, e1, rfl, LC.new hR ho h7 e2 e3 e4 e5 e6 (Nat.succ_le_succ hnr)⟩)) hob NP0 (by decide) (by decide))
          (NP1)
          (fun M1 hR1 => (r_rule_ok G rd S1 M1 hR1 a ha hRR n (f4 k0 k1 k2 k3) hn hf h9).mono (fun v M2 ⟨S2, e1, e2, e3, e4, e5⟩ => ⟨S2, _, e1, rfl, e2, e3, e4, e5⟩))
          (fun _ z r e1 e2 => e1.trans e2.symm) (AbOk_rule ha h9 hn hf) rfl kk
  · skip
    refine u_rule C HS P hL hi hc hs 1 (mc := 1) (ms := 6) (fr := 2) (lo := 42) (rd := rd) (S1 := S1) (a1 := a) (VC := fun _ => True) (VR := fun _ => True) (by decide) (by decide) (by decide) (by decide) (by decide) rfl rfl rfl rfl rfl
      (w_rule_A (x_rule G hT ad nr S M Pi _ _ _ _ _ hok) hob (by decide) (by decide))
      (XP0 hR ho h7 hnr Pi hCR (by decide))
      (fun M1 hR1 => (r_rule_no G rd S1 M1 hR1 a ha hRR _ _ _ _ _ (Or.inl hok)).mono (fun v M2 ⟨S2, e1, e2, e3, e4, e5⟩ => ⟨S2, _, e1, trivial, e2, e3, e4, by rw [e5, pB_f hok]; rfl⟩))
      (fun z => absurd z (by decide)) ha rfl kk
set_option maxHeartbeats 4000000 in
set_option maxRecDepth 100000 in
theorem v_height {G : fm_G} {X : fm_X} (C : GCL G X) (HS : GS X) (hT : G.1.stackTraces = false) {b L : Nat} {xs : Nat → Int32} (P : GP X b L xs) (hL : L ≤ 3072) {M : fm_M} {i x mm o kc ks : Nat} {a : Ab} (hi : i + 6 ≤ L) (hc : kc + 34 ≤ room_1.cells) (hs : ks + 2686 ≤ room_1.slots) (hI : LI G M x mm o a) (kk : ∀ (a2 : Ab) (M2 : fm_M), LI G M2 x mm o a2 → GW G X 7 M2 (kc + 34) (ks + 2686) 755 (lwl b x mm o i) []) : GW G X 7 M kc ks 211 (lwl b x mm o i) [] := by
  obtain ⟨rd, S1, f, rfl, ⟨ad, nr, S, rfl, Pi, hCR, hnr, hR, ho, h7⟩, hRR, ha⟩ := hI
  have hob := Pi.klc
  by_cases hN : okN (xs (i + 1))
  rotate_left
  · skip
    refine u_height C HS P hL hi hc hs 1 (mc := 1) (ms := 6) (fr := 5) (lo := 123) (rd := rd) (S1 := S1) (a1 := a) (VC := fun _ => True) (VR := fun _ => True) (by decide) (by decide) (by decide) (by decide) (by decide) rfl rfl rfl rfl
      (w_height_A (x_height_n G hT ad nr S M Pi _ _ _ _ hN) hob (by decide) (by decide))
      (XP0 hR ho h7 hnr Pi hCR (by decide))
      (fun M1 hR1 => (r_height_no G rd S1 M1 hR1 a ha hRR _ _ _ _ (fun z => hN z.1)).mono (fun v M2 ⟨S2, h1, h2, h3, h4, h5⟩ => ⟨S2, _, h1, trivial, h2, h3, h4, h5⟩))
      (fun z => absurd z (by decide)) ha rfl kk
  obtain ⟨n, hn, q0⟩ := hN
  by_cases hK : okM (xs (i + 2)) ∧ okM (xs (i + 3)) ∧ okM (xs (i + 4))
  rotate_left
  · skip
    refine u_height C HS P hL hi hc hs 1 (mc := 1) (ms := 6) (fr := 5) (lo := 123) (rd := rd) (S1 := S1) (a1 := a) (VC := fun _ => True) (VR := fun _ => True) (by decide) (by decide) (by decide) (by decide) (by decide) q0 rfl rfl rfl
      (w_height_A (x_height_c G hT ad nr S M Pi n _ _ _ hn hK) hob (by decide) (by decide))
      (XP0 hR ho h7 hnr Pi hCR (by decide))
      (fun M1 hR1 => (r_height_no G rd S1 M1 hR1 a ha hRR _ _ _ _ (fun z => hK z.2)).mono (fun v M2 ⟨S2, h1, h2, h3, h4, h5⟩ => ⟨S2, _, h1, trivial, h2, h3, h4, h5⟩))
      (fun z => absurd z (by decide)) ha rfl kk
  obtain ⟨⟨x, hx, q1⟩, ⟨y, hy, q2⟩, ⟨z, hz, q3⟩⟩ := hK
  refine u_height C HS P hL hi hc hs 0 (mc := 0) (ms := 0) (fr := 5) (lo := 123) (rd := rd) (S1 := S1) (a1 := a) (VC := HT (gO a) n (x + 8 * y + 64 * z)) (VR := HT (gO a) n (x + 8 * y + 64 * z)) (by decide) (by decide) (by decide) (by decide) (by decide) q0 q1 q2 q3
    (w_height (o := o) ((c_height G ad nr S M Pi a ha hnr hCR n x y z hn hx hy hz).mono (post' := NP G (ad 7 0) o rd S1 a (HT (gO a) n (x + 8 * y + 64 * z))) (by rintro v M2 ⟨S2, i, e1, e2, e3, e4, e5⟩; exact ⟨_, f, e1, e2, LC.fr hR ho h7 e3 e4 e5 hnr⟩)) hob NP0 (by decide) (by decide))
    (NP1)
    (fun M1 hR1 => (r_height G rd S1 M1 hR1 a ha hRR n x y z hn hx hy hz).mono (fun v M2 ⟨S2, r, e1, e2, e3, e4, e5, e6⟩ => ⟨S2, r, e1, e2, e3, e4, e5, e6⟩))
    (fun _ z r e1 e2 => HT_uniq e1 e2) ha rfl kk
set_option maxHeartbeats 4000000 in
set_option maxRecDepth 100000 in
theorem v_many {G : fm_G} {X : fm_X} (C : GCL G X) (HS : GS X) (hT : G.1.stackTraces = false) {b L : Nat} {xs : Nat → Int32} (P : GP X b L xs) (hL : L ≤ 3072) {M : fm_M} {i x mm o kc ks : Nat} {a : Ab} (hi : i + 6 ≤ L) (hc : kc + 34 ≤ room_1.cells) (hs : ks + 2686 ≤ room_1.slots) (hI : LI G M x mm o a) (kk : ∀ (a2 : Ab) (M2 : fm_M), LI G M2 x mm o a2 → GW G X 7 M2 (kc + 34) (ks + 2686) 755 (lwl b x mm o i) []) : GW G X 7 M kc ks 303 (lwl b x mm o i) [] := by
  obtain ⟨rd, S1, f, rfl, ⟨ad, nr, S, rfl, Pi, hCR, hnr, hR, ho, h7⟩, hRR, ha⟩ := hI
  have hob := Pi.klc
  by_cases hN : okN (xs (i + 1))
  rotate_left
  · skip
    refine u_many C HS P hL hi hc hs 1 (mc := 1) (ms := 6) (fr := 5) (lo := 123) (rd := rd) (S1 := S1) (a1 := a) (VC := fun _ => True) (VR := fun _ => True) (by decide) (by decide) (by decide) (by decide) (by decide) rfl
      (w_many_A (x_many_n G hT ad nr S M Pi _ hN) hob (by decide) (by decide))
      (XP0 hR ho h7 hnr Pi hCR (by decide))
      (fun M1 hR1 => (r_many_no G rd S1 M1 hR1 a ha hRR _ hN).mono (fun v M2 ⟨S2, h1, h2, h3, h4, h5⟩ => ⟨S2, _, h1, trivial, h2, h3, h4, h5⟩))
      (fun z => absurd z (by decide)) ha rfl kk
  obtain ⟨n, hn, q0⟩ := hN
  refine u_many C HS P hL hi hc hs 0 (mc := 0) (ms := 0) (fr := 5) (lo := 123) (rd := rd) (S1 := S1) (a1 := a) (VC := fun z => z = nI (mny (gO a) n 512)) (VR := fun z => z = nI (mny (gO a) n 512)) (by decide) (by decide) (by decide) (by decide) (by decide) q0
    (w_many (o := o) ((c_many G ad nr S M Pi a ha hnr hCR n hn).mono (post' := NP G (ad 7 0) o rd S1 a (fun z => z = nI (mny (gO a) n 512))) (by rintro v M2 ⟨S2, e1, e3, e4, e5⟩; exact ⟨_, f, e1, rfl, LC.fr hR ho h7 e3 e4 e5 hnr⟩)) hob NP0 (by decide) (by decide))
    (NP1)
    (fun M1 hR1 => (r_many G rd S1 M1 hR1 a ha hRR n hn).mono (fun v M2 ⟨S2, e1, e3, e4, e5, e6⟩ => ⟨S2, _, e1, rfl, e3, e4, e5, e6⟩))
    (fun _ z r e1 e2 => e1.trans e2.symm) ha rfl kk
set_option maxHeartbeats 4000000 in
set_option maxRecDepth 100000 in
theorem v_count {G : fm_G} {X : fm_X} (C : GCL G X) (HS : GS X) (hT : G.1.stackTraces = false) {b L : Nat} {xs : Nat → Int32} (P : GP X b L xs) (hL : L ≤ 3072) {M : fm_M} {i x mm o kc ks : Nat} {a : Ab} (hi : i + 6 ≤ L) (hc : kc + 34 ≤ room_1.cells) (hs : ks + 2686 ≤ room_1.slots) (hI : LI G M x mm o a) (kk : ∀ (a2 : Ab) (M2 : fm_M), LI G M2 x mm o a2 → GW G X 7 M2 (kc + 34) (ks + 2686) 755 (lwl b x mm o i) []) : GW G X 7 M kc ks 359 (lwl b x mm o i) [] := by
  obtain ⟨rd, S1, f, rfl, ⟨ad, nr, S, rfl, Pi, hCR, hnr, hR, ho, h7⟩, hRR, ha⟩ := hI
  have hob := Pi.klc
  by_cases hN : okN (xs (i + 1))
  rotate_left
  · skip
    refine u_count C HS P hL hi hc hs 1 (mc := 1) (ms := 6) (fr := 5) (lo := 123) (rd := rd) (S1 := S1) (a1 := a) (VC := fun _ => True) (VR := fun _ => True) (by decide) (by decide) (by decide) (by decide) (by decide) rfl rfl
      (w_count_A (x_count_n G hT ad nr S M Pi _ _ hN) hob (by decide) (by decide))
      (XP0 hR ho h7 hnr Pi hCR (by decide))
      (fun M1 hR1 => (r_count_no G rd S1 M1 hR1 a ha hRR _ _ hN).mono (fun v M2 ⟨S2, h1, h2, h3, h4, h5⟩ => ⟨S2, _, h1, trivial, h2, h3, h4, h5⟩))
      (fun z => absurd z (by decide)) ha rfl kk
  obtain ⟨n, hn, q0⟩ := hN
  by_cases hK : ∃ j, j < mny (gO a) n 512 ∧ xs (i + 2) = nI j
  rotate_left
  · skip
    refine u_count C HS P hL hi hc hs 2 (mc := 1) (ms := 6) (fr := 5) (lo := 123) (rd := rd) (S1 := S1) (a1 := a) (VC := fun _ => True) (VR := fun _ => True) (by decide) (by decide) (by decide) (by decide) (by decide) q0 rfl
      (w_count_B (x_count_k G hT ad nr S M Pi a ha hnr hCR n _ hn hK) hob (by decide) (by decide))
      (XP hR ho h7 hnr (by decide) (S := S))
      (fun M1 hR1 => (r_count_k G rd S1 M1 hR1 a ha hRR n _ hn hK).mono (fun v M2 ⟨S2, h1, h2, h3, h4, h5⟩ => ⟨S2, _, h1, trivial, h2, h3, h4, h5⟩))
      (fun z => absurd z (by decide)) ha rfl kk
  obtain ⟨k, hk, q1⟩ := hK
  refine u_count C HS P hL hi hc hs 0 (mc := 0) (ms := 0) (fr := 5) (lo := 123) (rd := rd) (S1 := S1) (a1 := a) (VC := fun z => ∃ c, Tr (gO a) n c ∧ mny (gO a) n c = k ∧ z = nI c) (VR := fun z => ∃ c, Tr (gO a) n c ∧ mny (gO a) n c = k ∧ z = nI c) (by decide) (by decide) (by decide) (by decide) (by decide) q0 q1
    (w_count (o := o) ((c_count G ad nr S M Pi a ha hnr hCR n k hn hk).mono (post' := NP G (ad 7 0) o rd S1 a (fun z => ∃ c, Tr (gO a) n c ∧ mny (gO a) n c = k ∧ z = nI c)) (by rintro v M2 ⟨S2, c, e0, e1, e2, e3, e4, e5, e6⟩; exact ⟨_, f, e3, ⟨c, e1, e2, rfl⟩, LC.fr hR ho h7 e4 e5 e6 hnr⟩)) hob NP0 (by decide) (by decide))
    (NP1)
    (fun M1 hR1 => (r_count G rd S1 M1 hR1 a ha hRR n k hn hk).mono (fun v M2 ⟨S2, c, e0, e1, e2, e3, e4, e5, e6, e7⟩ => ⟨S2, _, e3, ⟨c, e1, e2, rfl⟩, e4, e5, e6, e7⟩))
    (fun _ z r ⟨c, e1, e2, e3⟩ ⟨c1, e4, e5, e6⟩ => by rw [e3, e6, mny_uniq e1 e2 e4 e5]) ha rfl kk
set_option maxHeartbeats 4000000 in
set_option maxRecDepth 100000 in
theorem v_derive {G : fm_G} {X : fm_X} (C : GCL G X) (HS : GS X) (hT : G.1.stackTraces = false) {b L : Nat} {xs : Nat → Int32} (P : GP X b L xs) (hL : L ≤ 3072) {M : fm_M} {i x mm o kc ks : Nat} {a : Ab} (hi : i + 6 ≤ L) (hc : kc + 34 ≤ room_1.cells) (hs : ks + 2686 ≤ room_1.slots) (hI : LI G M x mm o a) (kk : ∀ (a2 : Ab) (M2 : fm_M), LI G M2 x mm o a2 → GW G X 7 M2 (kc + 34) (ks + 2686) 755 (lwl b x mm o i) []) : GW G X 7 M kc ks 427 (lwl b x mm o i) [] := by
  obtain ⟨rd, S1, f, rfl, ⟨ad, nr, S, rfl, Pi, hCR, hnr, hR, ho, h7⟩, hRR, ha⟩ := hI
  have hob := Pi.klc
  by_cases hN : okN (xs (i + 1))
  rotate_left
  · skip
    refine u_derive C HS P hL hi hc hs 1 (mc := 1) (ms := 6) (fr := 5) (lo := 123) (rd := rd) (S1 := S1) (a1 := a) (VC := fun _ => True) (VR := fun _ => True) (by decide) (by decide) (by decide) (by decide) (by decide) rfl rfl rfl rfl
      (w_derive_A (x_derive_n G hT ad nr S M Pi _ _ _ _ hN) hob (by decide) (by decide))
      (XP0 hR ho h7 hnr Pi hCR (by decide))
      (fun M1 hR1 => (r_derive_no G rd S1 M1 hR1 a ha hRR _ _ _ _ (fun z => hN z.1)).mono (fun v M2 ⟨S2, h1, h2, h3, h4, h5⟩ => ⟨S2, _, h1, trivial, h2, h3, h4, h5⟩))
      (fun z => absurd z (by decide)) ha rfl kk
  obtain ⟨n, hn, q0⟩ := hN
  by_cases hK : okM (xs (i + 2)) ∧ okM (xs (i + 3)) ∧ okM (xs (i + 4))
  rotate_left
  · skip
    refine u_derive C HS P hL hi hc hs 1 (mc := 1) (ms := 6) (fr := 5) (lo := 123) (rd := rd) (S1 := S1) (a1 := a) (VC := fun _ => True) (VR := fun _ => True) (by decide) (by decide) (by decide) (by decide) (by decide) q0 rfl rfl rfl
      (w_derive_A (x_derive_c G hT ad nr S M Pi n _ _ _ hn hK) hob (by decide) (by decide))
      (XP0 hR ho h7 hnr Pi hCR (by decide))
      (fun M1 hR1 => (r_derive_no G rd S1 M1 hR1 a ha hRR _ _ _ _ (fun z => hK z.2)).mono (fun v M2 ⟨S2, h1, h2, h3, h4, h5⟩ => ⟨S2, _, h1, trivial, h2, h3, h4, h5⟩))
      (fun z => absurd z (by decide)) ha rfl kk
  obtain ⟨⟨x, hx, q1⟩, ⟨y, hy, q2⟩, ⟨z, hz, q3⟩⟩ := hK
  by_cases hTr : Tr (gO a) n (x + 8 * y + 64 * z)
  rotate_left
  · skip
    refine u_derive C HS P hL hi hc hs 2 (mc := 1) (ms := 6) (fr := 5) (lo := 123) (rd := rd) (S1 := S1) (a1 := a) (VC := fun _ => True) (VR := fun _ => True) (by decide) (by decide) (by decide) (by decide) (by decide) q0 q1 q2 q3
      (w_derive_N (x_derive_N G hT ad nr S M Pi a ha hnr hCR n x y z hn hx hy hz hTr) hob (by decide) (by decide))
      (XP hR ho h7 hnr (by decide) (S := S))
      (fun M1 hR1 => (r_derive_N G rd S1 M1 hR1 a ha hRR n x y z hn hx hy hz hTr).mono (fun v M2 ⟨S2, h1, h2, h3, h4, h5⟩ => ⟨S2, _, h1, trivial, h2, h3, h4, h5⟩))
      (fun z => absurd z (by decide)) ha rfl kk
  by_cases hG : ∃ T, Gd (gO a) n (x + 8 * y + 64 * z) T
  rotate_left
  · skip
    refine u_derive C HS P hL hi hc hs 3 (mc := 1) (ms := 6) (fr := 5) (lo := 123) (rd := rd) (S1 := S1) (a1 := a) (VC := fun _ => True) (VR := fun _ => True) (by decide) (by decide) (by decide) (by decide) (by decide) q0 q1 q2 q3
      (w_derive_U (x_derive_U G hT ad nr S M Pi a ha hnr hCR n x y z hn hx hy hz hTr hG) hob (by decide) (by decide))
      (XP hR ho h7 hnr (by decide) (S := S))
      (fun M1 hR1 => (r_derive_U G rd S1 M1 hR1 a ha hRR n x y z hn hx hy hz hTr hG).mono (fun v M2 ⟨S2, h1, h2, h3, h4, h5⟩ => ⟨S2, _, h1, trivial, h2, h3, h4, h5⟩))
      (fun z => absurd z (by decide)) ha rfl kk
  obtain ⟨T, hG⟩ := hG
  refine u_derive C HS P hL hi hc hs 0 (mc := 0) (ms := 0) (fr := 5) (lo := 123) (rd := rd) (S1 := S1) (a1 := (a.nR, a.lf, a.sy, us (gO a) n (x + 8 * y + 64 * z) T, T, tr (gO a) n (x + 8 * y + 64 * z))) (VC := fun z => z = nI T) (VR := fun z => z = nI T) (by decide) (by decide) (by decide) (by decide) (by decide) q0 q1 q2 q3
    (w_derive (o := o) ((c_derive G ad nr S M Pi a ha hnr hCR n x y z T hn hx hy hz hTr hG).mono (post' := NP G (ad 7 0) o rd S1 (a.nR, a.lf, a.sy, us (gO a) n (x + 8 * y + 64 * z) T, T, tr (gO a) n (x + 8 * y + 64 * z)) (fun z => z = nI T)) (by rintro v M2 ⟨e1, S2, e3, e4, e5⟩; exact ⟨_, f, e1, rfl, LC.fr hR ho h7 e3 e4 e5 hnr⟩)) hob NP0 (by decide) (by decide))
    (NP1)
    (fun M1 hR1 => (r_derive G rd S1 M1 hR1 a ha hRR n x y z T hn hx hy hz hTr hG).mono (fun v M2 ⟨S2, e1, e3, e4, e5, e6⟩ => ⟨S2, _, e1, rfl, e3, e4, e5, e6⟩))
    (fun _ z r e1 e2 => e1.trans e2.symm) (AbOk_derive ha hG) rfl kk
set_option maxHeartbeats 4000000 in
set_option maxRecDepth 100000 in
theorem v_step {G : fm_G} {X : fm_X} (C : GCL G X) (HS : GS X) (hT : G.1.stackTraces = false) {b L : Nat} {xs : Nat → Int32} (P : GP X b L xs) (hL : L ≤ 3072) {M : fm_M} {i x mm o kc ks : Nat} {a : Ab} (hi : i + 6 ≤ L) (hc : kc + 34 ≤ room_1.cells) (hs : ks + 2686 ≤ room_1.slots) (hI : LI G M x mm o a) (kk : ∀ (a2 : Ab) (M2 : fm_M), LI G M2 x mm o a2 → GW G X 7 M2 (kc + 34) (ks + 2686) 755 (lwl b x mm o i) []) : GW G X 7 M kc ks 519 (lwl b x mm o i) [] := by
  obtain ⟨rd, S1, f, rfl, ⟨ad, nr, S, rfl, Pi, hCR, hnr, hR, ho, h7⟩, hRR, ha⟩ := hI
  have hob := Pi.klc
  by_cases hK : ∃ j, j < a.st ∧ xs (i + 1) = nI j
  rotate_left
  · skip
    refine u_step C HS P hL hi hc hs 1 (mc := 1) (ms := 6) (fr := 1) (lo := 24) (rd := rd) (S1 := S1) (a1 := a) (VC := fun _ => True) (VR := fun _ => True) (by decide) (by decide) (by decide) (by decide) (by decide) rfl
      (w_step_B (x_step G hT ad nr S M Pi a ha hnr hCR _ hK) hob (by decide) (by decide))
      (XP0 hR ho h7 hnr Pi hCR (by decide))
      (fun M1 hR1 => (r_step_no G rd S1 M1 hR1 a ha hRR _ hK).mono (fun v M2 ⟨S2, h1, h2, h3, h4, h5⟩ => ⟨S2, _, h1, trivial, h2, h3, h4, h5⟩))
      (fun z => absurd z (by decide)) ha rfl kk
  obtain ⟨k, hk, q0⟩ := hK
  refine u_step C HS P hL hi hc hs 0 (mc := 0) (ms := 0) (fr := 1) (lo := 24) (rd := rd) (S1 := S1) (a1 := a) (VC := fun z => z = nI (a.sp k)) (VR := fun z => z = nI (a.sp k)) (by decide) (by decide) (by decide) (by decide) (by decide) q0
    (w_step (o := o) ((c_step G ad nr S M Pi a ha hnr hCR k hk).mono (post' := NP G (ad 7 0) o rd S1 a (fun z => z = nI (a.sp k))) (by rintro v M2 ⟨e1, rfl⟩; exact ⟨_, f, e1, rfl, LC.fr hR ho h7 Pi Fr.rf hCR hnr⟩)) hob NP0 (by decide) (by decide))
    (NP1)
    (fun M1 hR1 => (r_step G rd S1 M1 hR1 a ha hRR k hk).mono (fun v M2 ⟨S2, e1, e3, e4, e5, e6⟩ => ⟨S2, _, e1, rfl, e3, e4, e5, e6⟩))
    (fun _ z r e1 e2 => e1.trans e2.symm) ha rfl kk
set_option maxHeartbeats 4000000 in
set_option maxRecDepth 100000 in
theorem v_use {G : fm_G} {X : fm_X} (C : GCL G X) (HS : GS X) (hT : G.1.stackTraces = false) {b L : Nat} {xs : Nat → Int32} (P : GP X b L xs) (hL : L ≤ 3072) {M : fm_M} {i x mm o kc ks : Nat} {a : Ab} (hi : i + 6 ≤ L) (hc : kc + 34 ≤ room_1.cells) (hs : ks + 2686 ≤ room_1.slots) (hI : LI G M x mm o a) (kk : ∀ (a2 : Ab) (M2 : fm_M), LI G M2 x mm o a2 → GW G X 7 M2 (kc + 34) (ks + 2686) 755 (lwl b x mm o i) []) : GW G X 7 M kc ks 575 (lwl b x mm o i) [] := by
  obtain ⟨rd, S1, f, rfl, ⟨ad, nr, S, rfl, Pi, hCR, hnr, hR, ho, h7⟩, hRR, ha⟩ := hI
  have hob := Pi.klc
  by_cases hK : (∃ j, j < a.nR ∧ xs (i + 1) = nI j) ∧ ∃ j, j < 51 ∧ xs (i + 2) = nI j
  rotate_left
  · skip
    refine u_use C HS P hL hi hc hs 1 (mc := 1) (ms := 6) (fr := 1) (lo := 24) (rd := rd) (S1 := S1) (a1 := a) (VC := fun _ => True) (VR := fun _ => True) (by decide) (by decide) (by decide) (by decide) (by decide) rfl rfl
      (w_use_A (x_use G hT ad nr S M Pi a ha hnr hCR _ _ hK) hob (by decide) (by decide))
      (XP0 hR ho h7 hnr Pi hCR (by decide))
      (fun M1 hR1 => (r_use_no G rd S1 M1 hR1 a ha hRR _ _ hK).mono (fun v M2 ⟨S2, h1, h2, h3, h4, h5⟩ => ⟨S2, _, h1, trivial, h2, h3, h4, h5⟩))
      (fun z => absurd z (by decide)) ha rfl kk
  obtain ⟨⟨r, hr, q0⟩, ⟨m, hm, q1⟩⟩ := hK
  have hm : m ≤ 50 := by omega
  refine u_use C HS P hL hi hc hs 0 (mc := 0) (ms := 0) (fr := 1) (lo := 24) (rd := rd) (S1 := S1) (a1 := (a.nR, a.lf, a.sy, updN a.us r m, a.st, a.sp)) (VC := fun z => z = nI (a.us r)) (VR := fun z => z = nI (a.us r)) (by decide) (by decide) (by decide) (by decide) (by decide) q0 q1
    (w_use (o := o) ((c_use G ad nr S M Pi a ha hnr hCR r m hr hm).mono (post' := NP G (ad 7 0) o rd S1 (a.nR, a.lf, a.sy, updN a.us r m, a.st, a.sp) (fun z => z = nI (a.us r))) (by rintro v M2 ⟨e1, S2, e3, e4, e5⟩; exact ⟨_, f, e1, rfl, LC.fr hR ho h7 e3 e4 e5 hnr⟩)) hob NP0 (by decide) (by decide))
    (NP1)
    (fun M1 hR1 => (r_use G rd S1 M1 hR1 a ha hRR r m hr hm).mono (fun v M2 ⟨S2, e1, e3, e4, e5, e6⟩ => ⟨S2, _, e1, rfl, e3, e4, e5, e6⟩))
    (fun _ z r e1 e2 => e1.trans e2.symm) (AbOk_use ha hm) rfl kk
set_option maxHeartbeats 4000000 in
set_option maxRecDepth 100000 in
theorem v_fit {G : fm_G} {X : fm_X} (C : GCL G X) (HS : GS X) (hT : G.1.stackTraces = false) {b L : Nat} {xs : Nat → Int32} (P : GP X b L xs) (hL : L ≤ 3072) {M : fm_M} {i x mm o kc ks : Nat} {a : Ab} (hi : i + 6 ≤ L) (hc : kc + 34 ≤ room_1.cells) (hs : ks + 2686 ≤ room_1.slots) (hI : LI G M x mm o a) (kk : ∀ (a2 : Ab) (M2 : fm_M), LI G M2 x mm o a2 → GW G X 7 M2 (kc + 34) (ks + 2686) 755 (lwl b x mm o i) []) : GW G X 7 M kc ks 643 (lwl b x mm o i) [] := by
  obtain ⟨rd, S1, f, rfl, ⟨ad, nr, S, rfl, Pi, hCR, hnr, hR, ho, h7⟩, hRR, ha⟩ := hI
  have hob := Pi.klc
  by_cases hN : okN (xs (i + 1))
  rotate_left
  · skip
    refine u_fit C HS P hL hi hc hs 1 (mc := 1) (ms := 6) (fr := 2) (lo := 50) (rd := rd) (S1 := S1) (a1 := a) (VC := fun _ => True) (VR := fun _ => True) (by decide) (by decide) (by decide) (by decide) (by decide) rfl
      (w_fit_A (x_fit_n G hT ad nr S M Pi _ hN) hob (by decide) (by decide))
      (XP0 hR ho h7 hnr Pi hCR (by decide))
      (fun M1 hR1 => (r_fit_no G rd S1 M1 hR1 a ha hRR _ hN).mono (fun v M2 ⟨S2, h1, h2, h3, h4, h5⟩ => ⟨S2, _, h1, trivial, h2, h3, h4, h5⟩))
      (fun z => absurd z (by decide)) ha rfl kk
  obtain ⟨n, hn, q0⟩ := hN
  refine u_fit C HS P hL hi hc hs 0 (mc := 0) (ms := 0) (fr := 2) (lo := 50) (rd := rd) (S1 := S1) (a1 := a) (VC := fun z => z = ft1 a n (swk a 4 (2 ^ n)) 5 0) (VR := fun z => z = ft1 a n (swk a 4 (2 ^ n)) 5 0) (by decide) (by decide) (by decide) (by decide) (by decide) q0
    (w_fit (o := o) ((c_fit G ad nr S M Pi a ha hnr hCR n hn).mono (post' := NP G (ad 7 0) o rd S1 a (fun z => z = ft1 a n (swk a 4 (2 ^ n)) 5 0)) (by rintro v M2 ⟨e1, rfl⟩; exact ⟨_, f, e1, rfl, LC.fr hR ho h7 Pi Fr.rf hCR hnr⟩)) hob NP0 (by decide) (by decide))
    (NP1)
    (fun M1 hR1 => (r_fit G rd S1 M1 hR1 a ha hRR n hn).mono (fun v M2 ⟨S2, e1, e3, e4, e5, e6⟩ => ⟨S2, _, e1, rfl, e3, e4, e5, e6⟩))
    (fun _ z r e1 e2 => e1.trans e2.symm) ha rfl kk
set_option maxHeartbeats 4000000 in
set_option maxRecDepth 100000 in
theorem v_letters {G : fm_G} {X : fm_X} (C : GCL G X) (HS : GS X) (hT : G.1.stackTraces = false) {b L : Nat} {xs : Nat → Int32} (P : GP X b L xs) (hL : L ≤ 3072) {M : fm_M} {i x mm o kc ks : Nat} {a : Ab} (hi : i + 6 ≤ L) (hc : kc + 34 ≤ room_1.cells) (hs : ks + 2686 ≤ room_1.slots) (hI : LI G M x mm o a) (kk : ∀ (a2 : Ab) (M2 : fm_M), LI G M2 x mm o a2 → GW G X 7 M2 (kc + 34) (ks + 2686) 755 (lwl b x mm o i) []) : GW G X 7 M kc ks 699 (lwl b x mm o i) [] := by
  obtain ⟨rd, S1, f, rfl, ⟨ad, nr, S, rfl, Pi, hCR, hnr, hR, ho, h7⟩, hRR, ha⟩ := hI
  have hob := Pi.klc
  by_cases hK : ∃ j, j < 3 ∧ xs (i + 1) = nI j
  rotate_left
  · skip
    refine u_letters C HS P hL hi hc hs 1 (mc := 1) (ms := 6) (fr := 2) (lo := 50) (rd := rd) (S1 := S1) (a1 := a) (VC := fun _ => True) (VR := fun _ => True) (by decide) (by decide) (by decide) (by decide) (by decide) rfl
      (w_letters_A (x_letters G hT ad nr S M Pi _ hK) hob (by decide) (by decide))
      (XP0 hR ho h7 hnr Pi hCR (by decide))
      (fun M1 hR1 => (r_letters_no G rd S1 M1 hR1 a ha hRR _ hK).mono (fun v M2 ⟨S2, h1, h2, h3, h4, h5⟩ => ⟨S2, _, h1, trivial, h2, h3, h4, h5⟩))
      (fun z => absurd z (by decide)) ha rfl kk
  obtain ⟨l, hl, q0⟩ := hK
  refine u_letters C HS P hL hi hc hs 0 (mc := 0) (ms := 0) (fr := 2) (lo := 50) (rd := rd) (S1 := S1) (a1 := a) (VC := fun z => z = nI (stS a (6 + l))) (VR := fun z => z = nI (stS a (6 + l))) (by decide) (by decide) (by decide) (by decide) (by decide) q0
    (w_letters (o := o) ((c_letters G ad nr S M Pi a ha hnr hCR l hl).mono (post' := NP G (ad 7 0) o rd S1 a (fun z => z = nI (stS a (6 + l)))) (by rintro v M2 ⟨e1, rfl⟩; exact ⟨_, f, e1, rfl, LC.fr hR ho h7 Pi Fr.rf hCR hnr⟩)) hob NP0 (by decide) (by decide))
    (NP1)
    (fun M1 hR1 => (r_letters G rd S1 M1 hR1 a ha hRR l hl).mono (fun v M2 ⟨S2, e1, e3, e4, e5, e6⟩ => ⟨S2, _, e1, rfl, e3, e4, e5, e6⟩))
    (fun _ z r e1 e2 => e1.trans e2.symm) ha rfl kk
