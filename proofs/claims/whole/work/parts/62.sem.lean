/-! THE LAW: what holds between two turns -/
def ap3 (ad : Nat → Nat → Nat) (nr : Nat) (rd : Nat → Nat) (o : Nat) : Prop := (∀ t k j, liv nr t k → j < 10 → ad t k ≠ rd j) ∧ (∀ t k, liv nr t k → ad t k ≠ o) ∧ ∀ j, j < 10 → rd j ≠ o
/-- the class's object holds a; the reference's cells hold S'; the answer's cell holds f -/
def LC (G : fm_G) (M : fm_M) (x o : Nat) (rd : Nat → Nat) (S' : Rs) (a : Ab) (f : Nat → Int64) : Prop := ∃ (ad : Nat → Nat → Nat) (nr : Nat) (S : Cs), ad 7 0 = x ∧ Pic G ad nr S M ∧ CR a S ∧ a.nR ≤ nr ∧ RPic G rd S' M ∧ M o = some (fm_L G 1 f) ∧ ap3 ad nr rd o
def LI (G : fm_G) (M : fm_M) (x mm o : Nat) (a : Ab) : Prop := ∃ (rd : Nat → Nat) (S' : Rs) (f : Nat → Int64), rd 0 = mm ∧ LC G M x o rd S' a f ∧ RR a S' ∧ AbOk a
theorem LC.rp {G : fm_G} {M : fm_M} {x o : Nat} {rd : Nat → Nat} {S' : Rs} {a : Ab} {f : Nat → Int64} (h : LC G M x o rd S' a f) : RPic G rd S' M := by
  obtain ⟨ad, nr, S, -, -, -, -, h5, -⟩ := h
  exact h5
theorem RPic.same {G : fm_G} {rd : Nat → Nat} {S : Rs} {M M1 : fm_M} (h : RPic G rd S M) (hM : ∀ j, j < 10 → M1 (rd j) = M (rd j)) : RPic G rd S M1 := ⟨fun k hk => by rw [hM k hk]; exact h.1 k hk, h.2⟩
theorem Pic.same {G : fm_G} {ad : Nat → Nat → Nat} {nr : Nat} {S : Cs} {M M1 : fm_M} (h : Pic G ad nr S M) (hM : ∀ t k, liv nr t k → M1 (ad t k) = M (ad t k)) : Pic G ad nr S M1 := ⟨h.1, fun t k hl => by rw [hM t k hl]; exact h.2.1 t k hl, h.2.2⟩
theorem LC.set {G : fm_G} {M : fm_M} {x o : Nat} {rd : Nat → Nat} {S' : Rs} {a : Ab} {f : Nat → Int64} (h : LC G M x o rd S' a f) (f' : Nat → Int64) : LC G (fm_set M o (fm_L G 1 f')) x o rd S' a f' := by
  obtain ⟨ad, nr, S, h1, h2, h3, h4, h5, h6, h7⟩ := h
  exact ⟨ad, nr, S, h1, h2.same (fun t k hl => fm_set_ne _ _ (h7.2.1 t k hl)), h3, h4, h5.same (fun j hj => fm_set_ne _ _ (h7.2.2 j hj)), fm_set_eq _ _ _, h7⟩
theorem LC.fr {G : fm_G} {M M1 : fm_M} {o : Nat} {rd : Nat → Nat} {S' : Rs} {a : Ab} {f : Nat → Int64} {ad : Nat → Nat → Nat} {nr : Nat} {S1 : Cs} (h5 : RPic G rd S' M) (h6 : M o = some (fm_L G 1 f)) (h7 : ap3 ad nr rd o) (h2 : Pic G ad nr S1 M1) (hF : Fr ad nr M M1) (h3 : CR a S1) (h4 : a.nR ≤ nr) : LC G M1 (ad 7 0) o rd S' a f :=
  ⟨ad, nr, S1, rfl, h2, h3, h4, h5.same (fun j hj => hF _ (fun t k hl z => h7.1 t k j hl hj z.symm)), by rw [hF o (fun t k hl z => h7.2.1 t k hl z.symm)]; exact h6, h7⟩
theorem LI.of {G : fm_G} {M1 M2 : fm_M} {x mm o : Nat} {rd : Nat → Nat} {S' S2 : Rs} {a : Ab} {f : Nat → Int64} (h : LC G M1 x o rd S' a f) (hR : RPic G rd S2 M2) (hF : RFr rd M1 M2) (hRR : RR a S2) (ha : AbOk a) (e0 : rd 0 = mm) : LI G M2 x mm o a ∧ M2 o = some (fm_L G 1 f) := by
  obtain ⟨ad, nr, S, h1, h2, h3, h4, h5, h6, h7⟩ := h
  have ho : M2 o = some (fm_L G 1 f) := by rw [hF o (fun k hk z => h7.2.2 k hk z.symm)]; exact h6
  exact ⟨⟨rd, S2, f, e0, ⟨ad, nr, S, h1, h2.same (fun t k hl => hF _ (fun j hj => h7.1 t k j hl hj)), h3, h4, hR, ho, h7⟩, hRR, ha⟩, ho⟩
theorem updL0 (f : Nat → Int64) (x : Int64) : vp_updL f 0 x 0 = x := if_pos rfl
def f4 (k0 k1 k2 k3 : Nat) : Nat → Nat
  | 0 => k0
  | 1 => k1
  | 2 => k2
  | _ => k3
theorem f4_lt {k0 k1 k2 k3 : Nat} (h0 : k0 < 9) (h1 : k1 < 9) (h2 : k2 < 9) (h3 : k3 < 9) : ∀ p, p < 4 → f4 k0 k1 k2 k3 p < 9 := by
  intro p hp
  match p, hp with
  | 0, _ => exact h0
  | 1, _ => exact h1
  | 2, _ => exact h2
  | 3, _ => exact h3
theorem AbOk_rule {a : Ab} (ha : AbOk a) (h : a.nR < 10) {lf : Nat} {f : Nat → Nat} (hlf : lf < 5) (hf : ∀ p, p < 4 → f p < 9) : AbOk (abR a lf f) := by
  refine ⟨h, fun r hr => ?_, Nat.zero_le _⟩
  have hr : r < a.nR + 1 := hr
  show updN a.lf a.nR lf r < 5 ∧ (∀ p, p < 4 → (if r = a.nR then f else a.sy r) p < 9) ∧ updN a.us a.nR 0 r ≤ 50
  unfold updN
  by_cases e : r = a.nR
  · rw [if_pos e, if_pos e, if_pos e]
    exact ⟨hlf, hf, Nat.zero_le _⟩
  · rw [if_neg e, if_neg e, if_neg e]
    exact ha.2.1 r (by omega)
theorem AbOk_use {a : Ab} (ha : AbOk a) {r m : Nat} (hm : m ≤ 50) : AbOk (a.nR, a.lf, a.sy, updN a.us r m, a.st, a.sp) := by
  refine ⟨ha.1, fun q hq => ?_, ha.2.2⟩
  have hq : q < a.nR := hq
  obtain ⟨h1, h2, h3⟩ := ha.2.1 q hq
  refine ⟨h1, h2, ?_⟩
  show updN a.us r m q ≤ 50
  unfold updN
  by_cases e : q = r
  · rw [if_pos e]; exact hm
  · rw [if_neg e]; exact h3
theorem AbOk_clear {a : Ab} : AbOk (0, a.lf, a.sy, a.us, 0, a.sp) := ⟨Nat.zero_le _, fun r hr => absurd hr (Nat.not_lt_zero r), Nat.zero_le _⟩
theorem AbOk_derive {a : Ab} (ha : AbOk a) {n c T : Nat} (hG : Gd (gO a) n c T) : AbOk (a.nR, a.lf, a.sy, us (gO a) n c T, T, tr (gO a) n c) := by
  refine ⟨ha.1, fun q hq => ?_, hG.2.1⟩
  have hq : q < a.nR := hq
  obtain ⟨h1, h2, h3⟩ := ha.2.1 q hq
  exact ⟨h1, h2, Gd_us hG q T (Nat.le_refl T)⟩
set_option maxHeartbeats 4000000 in
set_option maxRecDepth 100000 in
theorem u_rule {G : fm_G} {X : fm_X} (C : GCL G X) (HS : GS X) {b L : Nat} {xs : Nat → Int32} (P : GP X b L xs) (hL : L ≤ 3072) {M : fm_M} {i x mm o kc ks mc ms fr lo : Nat} {PC : fm_M → Prop} {VC VR : Int32 → Prop} {rd : Nat → Nat} {S1 : Rs} {a1 : Ab} {p0 p1 p2 p3 p4 : Int32} (hi : i + 6 ≤ L) (hc : kc + 34 ≤ room_1.cells) (hs : ks + 2686 ≤ room_1.slots) (code : Nat) (hmc : mc ≤ 34) (hms : ms ≤ 2686) (hcd : code < 4) (hfr : fr + 1 ≤ 12) (hlo : 8 + (7 + 11) + lo ≤ 438) (q0 : xs (i + 1) = p0) (q1 : xs (i + 2) = p1) (q2 : xs (i + 3) = p2) (q3 : xs (i + 4) = p3) (q4 : xs (i + 5) = p4)
    (KC : fm_CtW G yL_rule cL_rule 8 (some .int) hL_rule 9 200 mc ms [.ref x, .int p0, .int p1, .int p2, .int p3, .int p4, .ref o] M (fun v M1 => v = some (.int (nI code)) ∧ PC M1))
    (hPC : ∀ M1, PC M1 → ∃ f, LC G M1 x o rd S1 a1 f ∧ (code = 0 → ∃ z : Int32, f 0 = z.toInt64 ∧ VC z))
    (KR : ∀ M1, RPic G rd S1 M1 → fm_Ct G yX6_rule cX6_rule 7 (some .int) fr lo 0 0 [.ref mm, .int p0, .int p1, .int p2, .int p3, .int p4] M1 (fun v M2 => ∃ S2 r, v = some (.int r) ∧ VR r ∧ RPic G rd S2 M2 ∧ RFr rd M1 M2 ∧ RR a1 S2 ∧ S2.2 0 = nI code))
    (hu : code = 0 → ∀ z r, VC z → VR r → z = r) (ha : AbOk a1) (e0 : rd 0 = mm) (kk : ∀ (a2 : Ab) (M2 : fm_M), LI G M2 x mm o a2 → GW G X 7 M2 (kc + 34) (ks + 2686) 755 (lwl b x mm o i) []) : GW G X 7 M kc ks 96 (lwl b x mm o i) [] := by
  subst q0 q1 q2 q3 q4
  refine t_rule C HS P hL hi hc hs hmc hms hcd hfr hlo KC (PR := fun r M2 => VR r ∧ ∃ M1 f S2, LC G M1 x o rd S1 a1 f ∧ (code = 0 → ∃ z : Int32, f 0 = z.toInt64 ∧ VC z) ∧ RPic G rd S2 M2 ∧ RFr rd M1 M2 ∧ RR a1 S2 ∧ S2.2 0 = nI code) ?_ ?_ ?_
  · intro M1 hp
    obtain ⟨f, h1, h2⟩ := hPC M1 hp
    refine ⟨⟨_, by rw [← e0]; exact h1.rp.ob⟩, (KR M1 h1.rp).mono ?_⟩
    rintro v M2 ⟨S2, r, rfl, h3, h4, h5, h6, h7⟩
    exact ⟨r, rfl, h3, M1, f, S2, h1, h2, h4, h5, h6, h7⟩
  · rintro r M2 ⟨h3, M1, f, S2, h1, h2, h4, h5, h6, h7⟩
    refine ⟨⟨rd, S2, e0, h4, h7⟩, fun hz => ?_⟩
    obtain ⟨z, h8, h9⟩ := h2 hz
    exact ⟨f, (LI.of h1 h4 h5 h6 ha e0).2, by rw [h8, hu hz z r h9 h3]⟩
  · rintro r M2 ⟨h3, M1, f, S2, h1, h2, h4, h5, h6, h7⟩
    exact kk a1 M2 (LI.of h1 h4 h5 h6 ha e0).1
set_option maxHeartbeats 4000000 in
set_option maxRecDepth 100000 in
theorem u_height {G : fm_G} {X : fm_X} (C : GCL G X) (HS : GS X) {b L : Nat} {xs : Nat → Int32} (P : GP X b L xs) (hL : L ≤ 3072) {M : fm_M} {i x mm o kc ks mc ms fr lo : Nat} {PC : fm_M → Prop} {VC VR : Int32 → Prop} {rd : Nat → Nat} {S1 : Rs} {a1 : Ab} {p0 p1 p2 p3 : Int32} (hi : i + 6 ≤ L) (hc : kc + 34 ≤ room_1.cells) (hs : ks + 2686 ≤ room_1.slots) (code : Nat) (hmc : mc ≤ 34) (hms : ms ≤ 2686) (hcd : code < 4) (hfr : fr + 1 ≤ 12) (hlo : 8 + (6 + 11) + lo ≤ 438) (q0 : xs (i + 1) = p0) (q1 : xs (i + 2) = p1) (q2 : xs (i + 3) = p2) (q3 : xs (i + 4) = p3)
    (KC : fm_CtW G yL_height cL_height 7 (some .int) hL_height 9 200 mc ms [.ref x, .int p0, .int p1, .int p2, .int p3, .ref o] M (fun v M1 => v = some (.int (nI code)) ∧ PC M1))
    (hPC : ∀ M1, PC M1 → ∃ f, LC G M1 x o rd S1 a1 f ∧ (code = 0 → ∃ z : Int32, f 0 = z.toInt64 ∧ VC z))
    (KR : ∀ M1, RPic G rd S1 M1 → fm_Ct G yX6_height cX6_height 6 (some .int) fr lo 0 0 [.ref mm, .int p0, .int p1, .int p2, .int p3] M1 (fun v M2 => ∃ S2 r, v = some (.int r) ∧ VR r ∧ RPic G rd S2 M2 ∧ RFr rd M1 M2 ∧ RR a1 S2 ∧ S2.2 0 = nI code))
    (hu : code = 0 → ∀ z r, VC z → VR r → z = r) (ha : AbOk a1) (e0 : rd 0 = mm) (kk : ∀ (a2 : Ab) (M2 : fm_M), LI G M2 x mm o a2 → GW G X 7 M2 (kc + 34) (ks + 2686) 755 (lwl b x mm o i) []) : GW G X 7 M kc ks 211 (lwl b x mm o i) [] := by
  subst q0 q1 q2 q3
  refine t_height C HS P hL hi hc hs hmc hms hcd hfr hlo KC (PR := fun r M2 => VR r ∧ ∃ M1 f S2, LC G M1 x o rd S1 a1 f ∧ (code = 0 → ∃ z : Int32, f 0 = z.toInt64 ∧ VC z) ∧ RPic G rd S2 M2 ∧ RFr rd M1 M2 ∧ RR a1 S2 ∧ S2.2 0 = nI code) ?_ ?_ ?_
  · intro M1 hp
    obtain ⟨f, h1, h2⟩ := hPC M1 hp
    refine ⟨⟨_, by rw [← e0]; exact h1.rp.ob⟩, (KR M1 h1.rp).mono ?_⟩
    rintro v M2 ⟨S2, r, rfl, h3, h4, h5, h6, h7⟩
    exact ⟨r, rfl, h3, M1, f, S2, h1, h2, h4, h5, h6, h7⟩
  · rintro r M2 ⟨h3, M1, f, S2, h1, h2, h4, h5, h6, h7⟩
    refine ⟨⟨rd, S2, e0, h4, h7⟩, fun hz => ?_⟩
    obtain ⟨z, h8, h9⟩ := h2 hz
    exact ⟨f, (LI.of h1 h4 h5 h6 ha e0).2, by rw [h8, hu hz z r h9 h3]⟩
  · rintro r M2 ⟨h3, M1, f, S2, h1, h2, h4, h5, h6, h7⟩
    exact kk a1 M2 (LI.of h1 h4 h5 h6 ha e0).1
set_option maxHeartbeats 4000000 in
set_option maxRecDepth 100000 in
theorem u_many {G : fm_G} {X : fm_X} (C : GCL G X) (HS : GS X) {b L : Nat} {xs : Nat → Int32} (P : GP X b L xs) (hL : L ≤ 3072) {M : fm_M} {i x mm o kc ks mc ms fr lo : Nat} {PC : fm_M → Prop} {VC VR : Int32 → Prop} {rd : Nat → Nat} {S1 : Rs} {a1 : Ab} {p0 : Int32} (hi : i + 6 ≤ L) (hc : kc + 34 ≤ room_1.cells) (hs : ks + 2686 ≤ room_1.slots) (code : Nat) (hmc : mc ≤ 34) (hms : ms ≤ 2686) (hcd : code < 4) (hfr : fr + 1 ≤ 12) (hlo : 8 + (2 + 11) + lo ≤ 438) (q0 : xs (i + 1) = p0)
    (KC : fm_CtW G yL_many cL_many 4 (some .int) hL_many 9 200 mc ms [.ref x, .int p0, .ref o] M (fun v M1 => v = some (.int (nI code)) ∧ PC M1))
    (hPC : ∀ M1, PC M1 → ∃ f, LC G M1 x o rd S1 a1 f ∧ (code = 0 → ∃ z : Int32, f 0 = z.toInt64 ∧ VC z))
    (KR : ∀ M1, RPic G rd S1 M1 → fm_Ct G yX6_many cX6_many 2 (some .int) fr lo 0 0 [.ref mm, .int p0] M1 (fun v M2 => ∃ S2 r, v = some (.int r) ∧ VR r ∧ RPic G rd S2 M2 ∧ RFr rd M1 M2 ∧ RR a1 S2 ∧ S2.2 0 = nI code))
    (hu : code = 0 → ∀ z r, VC z → VR r → z = r) (ha : AbOk a1) (e0 : rd 0 = mm) (kk : ∀ (a2 : Ab) (M2 : fm_M), LI G M2 x mm o a2 → GW G X 7 M2 (kc + 34) (ks + 2686) 755 (lwl b x mm o i) []) : GW G X 7 M kc ks 303 (lwl b x mm o i) [] := by
  subst q0
  refine t_many C HS P hL hi hc hs hmc hms hcd hfr hlo KC (PR := fun r M2 => VR r ∧ ∃ M1 f S2, LC G M1 x o rd S1 a1 f ∧ (code = 0 → ∃ z : Int32, f 0 = z.toInt64 ∧ VC z) ∧ RPic G rd S2 M2 ∧ RFr rd M1 M2 ∧ RR a1 S2 ∧ S2.2 0 = nI code) ?_ ?_ ?_
  · intro M1 hp
    obtain ⟨f, h1, h2⟩ := hPC M1 hp
    refine ⟨⟨_, by rw [← e0]; exact h1.rp.ob⟩, (KR M1 h1.rp).mono ?_⟩
    rintro v M2 ⟨S2, r, rfl, h3, h4, h5, h6, h7⟩
    exact ⟨r, rfl, h3, M1, f, S2, h1, h2, h4, h5, h6, h7⟩
  · rintro r M2 ⟨h3, M1, f, S2, h1, h2, h4, h5, h6, h7⟩
    refine ⟨⟨rd, S2, e0, h4, h7⟩, fun hz => ?_⟩
    obtain ⟨z, h8, h9⟩ := h2 hz
    exact ⟨f, (LI.of h1 h4 h5 h6 ha e0).2, by rw [h8, hu hz z r h9 h3]⟩
  · rintro r M2 ⟨h3, M1, f, S2, h1, h2, h4, h5, h6, h7⟩
    exact kk a1 M2 (LI.of h1 h4 h5 h6 ha e0).1
set_option maxHeartbeats 4000000 in
set_option maxRecDepth 100000 in
theorem u_count {G : fm_G} {X : fm_X} (C : GCL G X) (HS : GS X) {b L : Nat} {xs : Nat → Int32} (P : GP X b L xs) (hL : L ≤ 3072) {M : fm_M} {i x mm o kc ks mc ms fr lo : Nat} {PC : fm_M → Prop} {VC VR : Int32 → Prop} {rd : Nat → Nat} {S1 : Rs} {a1 : Ab} {p0 p1 : Int32} (hi : i + 6 ≤ L) (hc : kc + 34 ≤ room_1.cells) (hs : ks + 2686 ≤ room_1.slots) (code : Nat) (hmc : mc ≤ 34) (hms : ms ≤ 2686) (hcd : code < 4) (hfr : fr + 1 ≤ 12) (hlo : 8 + (6 + 11) + lo ≤ 438) (q0 : xs (i + 1) = p0) (q1 : xs (i + 2) = p1)
    (KC : fm_CtW G yL_count cL_count 5 (some .int) hL_count 9 200 mc ms [.ref x, .int p0, .int p1, .ref o] M (fun v M1 => v = some (.int (nI code)) ∧ PC M1))
    (hPC : ∀ M1, PC M1 → ∃ f, LC G M1 x o rd S1 a1 f ∧ (code = 0 → ∃ z : Int32, f 0 = z.toInt64 ∧ VC z))
    (KR : ∀ M1, RPic G rd S1 M1 → fm_Ct G yX6_count cX6_count 6 (some .int) fr lo 0 0 [.ref mm, .int p0, .int p1] M1 (fun v M2 => ∃ S2 r, v = some (.int r) ∧ VR r ∧ RPic G rd S2 M2 ∧ RFr rd M1 M2 ∧ RR a1 S2 ∧ S2.2 0 = nI code))
    (hu : code = 0 → ∀ z r, VC z → VR r → z = r) (ha : AbOk a1) (e0 : rd 0 = mm) (kk : ∀ (a2 : Ab) (M2 : fm_M), LI G M2 x mm o a2 → GW G X 7 M2 (kc + 34) (ks + 2686) 755 (lwl b x mm o i) []) : GW G X 7 M kc ks 359 (lwl b x mm o i) [] := by
  subst q0 q1
  refine t_count C HS P hL hi hc hs hmc hms hcd hfr hlo KC (PR := fun r M2 => VR r ∧ ∃ M1 f S2, LC G M1 x o rd S1 a1 f ∧ (code = 0 → ∃ z : Int32, f 0 = z.toInt64 ∧ VC z) ∧ RPic G rd S2 M2 ∧ RFr rd M1 M2 ∧ RR a1 S2 ∧ S2.2 0 = nI code) ?_ ?_ ?_
  · intro M1 hp
    obtain ⟨f, h1, h2⟩ := hPC M1 hp
    refine ⟨⟨_, by rw [← e0]; exact h1.rp.ob⟩, (KR M1 h1.rp).mono ?_⟩
    rintro v M2 ⟨S2, r, rfl, h3, h4, h5, h6, h7⟩
    exact ⟨r, rfl, h3, M1, f, S2, h1, h2, h4, h5, h6, h7⟩
  · rintro r M2 ⟨h3, M1, f, S2, h1, h2, h4, h5, h6, h7⟩
    refine ⟨⟨rd, S2, e0, h4, h7⟩, fun hz => ?_⟩
    obtain ⟨z, h8, h9⟩ := h2 hz
    exact ⟨f, (LI.of h1 h4 h5 h6 ha e0).2, by rw [h8, hu hz z r h9 h3]⟩
  · rintro r M2 ⟨h3, M1, f, S2, h1, h2, h4, h5, h6, h7⟩
    exact kk a1 M2 (LI.of h1 h4 h5 h6 ha e0).1
set_option maxHeartbeats 4000000 in
set_option maxRecDepth 100000 in
theorem u_derive {G : fm_G} {X : fm_X} (C : GCL G X) (HS : GS X) {b L : Nat} {xs : Nat → Int32} (P : GP X b L xs) (hL : L ≤ 3072) {M : fm_M} {i x mm o kc ks mc ms fr lo : Nat} {PC : fm_M → Prop} {VC VR : Int32 → Prop} {rd : Nat → Nat} {S1 : Rs} {a1 : Ab} {p0 p1 p2 p3 : Int32} (hi : i + 6 ≤ L) (hc : kc + 34 ≤ room_1.cells) (hs : ks + 2686 ≤ room_1.slots) (code : Nat) (hmc : mc ≤ 34) (hms : ms ≤ 2686) (hcd : code < 4) (hfr : fr + 1 ≤ 12) (hlo : 8 + (9 + 11) + lo ≤ 438) (q0 : xs (i + 1) = p0) (q1 : xs (i + 2) = p1) (q2 : xs (i + 3) = p2) (q3 : xs (i + 4) = p3)
    (KC : fm_CtW G yL_derive cL_derive 7 (some .int) hL_derive 9 200 mc ms [.ref x, .int p0, .int p1, .int p2, .int p3, .ref o] M (fun v M1 => v = some (.int (nI code)) ∧ PC M1))
    (hPC : ∀ M1, PC M1 → ∃ f, LC G M1 x o rd S1 a1 f ∧ (code = 0 → ∃ z : Int32, f 0 = z.toInt64 ∧ VC z))
    (KR : ∀ M1, RPic G rd S1 M1 → fm_Ct G yX6_derive cX6_derive 9 (some .int) fr lo 0 0 [.ref mm, .int p0, .int p1, .int p2, .int p3] M1 (fun v M2 => ∃ S2 r, v = some (.int r) ∧ VR r ∧ RPic G rd S2 M2 ∧ RFr rd M1 M2 ∧ RR a1 S2 ∧ S2.2 0 = nI code))
    (hu : code = 0 → ∀ z r, VC z → VR r → z = r) (ha : AbOk a1) (e0 : rd 0 = mm) (kk : ∀ (a2 : Ab) (M2 : fm_M), LI G M2 x mm o a2 → GW G X 7 M2 (kc + 34) (ks + 2686) 755 (lwl b x mm o i) []) : GW G X 7 M kc ks 427 (lwl b x mm o i) [] := by
  subst q0 q1 q2 q3
  refine t_derive C HS P hL hi hc hs hmc hms hcd hfr hlo KC (PR := fun r M2 => VR r ∧ ∃ M1 f S2, LC G M1 x o rd S1 a1 f ∧ (code = 0 → ∃ z : Int32, f 0 = z.toInt64 ∧ VC z) ∧ RPic G rd S2 M2 ∧ RFr rd M1 M2 ∧ RR a1 S2 ∧ S2.2 0 = nI code) ?_ ?_ ?_
  · intro M1 hp
    obtain ⟨f, h1, h2⟩ := hPC M1 hp
    refine ⟨⟨_, by rw [← e0]; exact h1.rp.ob⟩, (KR M1 h1.rp).mono ?_⟩
    rintro v M2 ⟨S2, r, rfl, h3, h4, h5, h6, h7⟩
    exact ⟨r, rfl, h3, M1, f, S2, h1, h2, h4, h5, h6, h7⟩
  · rintro r M2 ⟨h3, M1, f, S2, h1, h2, h4, h5, h6, h7⟩
    refine ⟨⟨rd, S2, e0, h4, h7⟩, fun hz => ?_⟩
    obtain ⟨z, h8, h9⟩ := h2 hz
    exact ⟨f, (LI.of h1 h4 h5 h6 ha e0).2, by rw [h8, hu hz z r h9 h3]⟩
  · rintro r M2 ⟨h3, M1, f, S2, h1, h2, h4, h5, h6, h7⟩
    exact kk a1 M2 (LI.of h1 h4 h5 h6 ha e0).1
set_option maxHeartbeats 4000000 in
set_option maxRecDepth 100000 in
theorem u_step {G : fm_G} {X : fm_X} (C : GCL G X) (HS : GS X) {b L : Nat} {xs : Nat → Int32} (P : GP X b L xs) (hL : L ≤ 3072) {M : fm_M} {i x mm o kc ks mc ms fr lo : Nat} {PC : fm_M → Prop} {VC VR : Int32 → Prop} {rd : Nat → Nat} {S1 : Rs} {a1 : Ab} {p0 : Int32} (hi : i + 6 ≤ L) (hc : kc + 34 ≤ room_1.cells) (hs : ks + 2686 ≤ room_1.slots) (code : Nat) (hmc : mc ≤ 34) (hms : ms ≤ 2686) (hcd : code < 4) (hfr : fr + 1 ≤ 12) (hlo : 8 + (2 + 11) + lo ≤ 438) (q0 : xs (i + 1) = p0)
    (KC : fm_CtW G yL_step cL_step 4 (some .int) hL_step 9 200 mc ms [.ref x, .int p0, .ref o] M (fun v M1 => v = some (.int (nI code)) ∧ PC M1))
    (hPC : ∀ M1, PC M1 → ∃ f, LC G M1 x o rd S1 a1 f ∧ (code = 0 → ∃ z : Int32, f 0 = z.toInt64 ∧ VC z))
    (KR : ∀ M1, RPic G rd S1 M1 → fm_Ct G yX6_step cX6_step 2 (some .int) fr lo 0 0 [.ref mm, .int p0] M1 (fun v M2 => ∃ S2 r, v = some (.int r) ∧ VR r ∧ RPic G rd S2 M2 ∧ RFr rd M1 M2 ∧ RR a1 S2 ∧ S2.2 0 = nI code))
    (hu : code = 0 → ∀ z r, VC z → VR r → z = r) (ha : AbOk a1) (e0 : rd 0 = mm) (kk : ∀ (a2 : Ab) (M2 : fm_M), LI G M2 x mm o a2 → GW G X 7 M2 (kc + 34) (ks + 2686) 755 (lwl b x mm o i) []) : GW G X 7 M kc ks 519 (lwl b x mm o i) [] := by
  subst q0
  refine t_step C HS P hL hi hc hs hmc hms hcd hfr hlo KC (PR := fun r M2 => VR r ∧ ∃ M1 f S2, LC G M1 x o rd S1 a1 f ∧ (code = 0 → ∃ z : Int32, f 0 = z.toInt64 ∧ VC z) ∧ RPic G rd S2 M2 ∧ RFr rd M1 M2 ∧ RR a1 S2 ∧ S2.2 0 = nI code) ?_ ?_ ?_
  · intro M1 hp
    obtain ⟨f, h1, h2⟩ := hPC M1 hp
    refine ⟨⟨_, by rw [← e0]; exact h1.rp.ob⟩, (KR M1 h1.rp).mono ?_⟩
    rintro v M2 ⟨S2, r, rfl, h3, h4, h5, h6, h7⟩
    exact ⟨r, rfl, h3, M1, f, S2, h1, h2, h4, h5, h6, h7⟩
  · rintro r M2 ⟨h3, M1, f, S2, h1, h2, h4, h5, h6, h7⟩
    refine ⟨⟨rd, S2, e0, h4, h7⟩, fun hz => ?_⟩
    obtain ⟨z, h8, h9⟩ := h2 hz
    exact ⟨f, (LI.of h1 h4 h5 h6 ha e0).2, by rw [h8, hu hz z r h9 h3]⟩
  · rintro r M2 ⟨h3, M1, f, S2, h1, h2, h4, h5, h6, h7⟩
    exact kk a1 M2 (LI.of h1 h4 h5 h6 ha e0).1
set_option maxHeartbeats 4000000 in
set_option maxRecDepth 100000 in
theorem u_use {G : fm_G} {X : fm_X} (C : GCL G X) (HS : GS X) {b L : Nat} {xs : Nat → Int32} (P : GP X b L xs) (hL : L ≤ 3072) {M : fm_M} {i x mm o kc ks mc ms fr lo : Nat} {PC : fm_M → Prop} {VC VR : Int32 → Prop} {rd : Nat → Nat} {S1 : Rs} {a1 : Ab} {p0 p1 : Int32} (hi : i + 6 ≤ L) (hc : kc + 34 ≤ room_1.cells) (hs : ks + 2686 ≤ room_1.slots) (code : Nat) (hmc : mc ≤ 34) (hms : ms ≤ 2686) (hcd : code < 4) (hfr : fr + 1 ≤ 12) (hlo : 8 + (4 + 11) + lo ≤ 438) (q0 : xs (i + 1) = p0) (q1 : xs (i + 2) = p1)
    (KC : fm_CtW G yL_use cL_use 5 (some .int) hL_use 9 200 mc ms [.ref x, .int p0, .int p1, .ref o] M (fun v M1 => v = some (.int (nI code)) ∧ PC M1))
    (hPC : ∀ M1, PC M1 → ∃ f, LC G M1 x o rd S1 a1 f ∧ (code = 0 → ∃ z : Int32, f 0 = z.toInt64 ∧ VC z))
    (KR : ∀ M1, RPic G rd S1 M1 → fm_Ct G yX6_use cX6_use 4 (some .int) fr lo 0 0 [.ref mm, .int p0, .int p1] M1 (fun v M2 => ∃ S2 r, v = some (.int r) ∧ VR r ∧ RPic G rd S2 M2 ∧ RFr rd M1 M2 ∧ RR a1 S2 ∧ S2.2 0 = nI code))
    (hu : code = 0 → ∀ z r, VC z → VR r → z = r) (ha : AbOk a1) (e0 : rd 0 = mm) (kk : ∀ (a2 : Ab) (M2 : fm_M), LI G M2 x mm o a2 → GW G X 7 M2 (kc + 34) (ks + 2686) 755 (lwl b x mm o i) []) : GW G X 7 M kc ks 575 (lwl b x mm o i) [] := by
  subst q0 q1
  refine t_use C HS P hL hi hc hs hmc hms hcd hfr hlo KC (PR := fun r M2 => VR r ∧ ∃ M1 f S2, LC G M1 x o rd S1 a1 f ∧ (code = 0 → ∃ z : Int32, f 0 = z.toInt64 ∧ VC z) ∧ RPic G rd S2 M2 ∧ RFr rd M1 M2 ∧ RR a1 S2 ∧ S2.2 0 = nI code) ?_ ?_ ?_
  · intro M1 hp
    obtain ⟨f, h1, h2⟩ := hPC M1 hp
    refine ⟨⟨_, by rw [← e0]; exact h1.rp.ob⟩, (KR M1 h1.rp).mono ?_⟩
    rintro v M2 ⟨S2, r, rfl, h3, h4, h5, h6, h7⟩
    exact ⟨r, rfl, h3, M1, f, S2, h1, h2, h4, h5, h6, h7⟩
  · rintro r M2 ⟨h3, M1, f, S2, h1, h2, h4, h5, h6, h7⟩
    refine ⟨⟨rd, S2, e0, h4, h7⟩, fun hz => ?_⟩
    obtain ⟨z, h8, h9⟩ := h2 hz
    exact ⟨f, (LI.of h1 h4 h5 h6 ha e0).2, by rw [h8, hu hz z r h9 h3]⟩
  · rintro r M2 ⟨h3, M1, f, S2, h1, h2, h4, h5, h6, h7⟩
    exact kk a1 M2 (LI.of h1 h4 h5 h6 ha e0).1
set_option maxHeartbeats 4000000 in
set_option maxRecDepth 100000 in
theorem u_fit {G : fm_G} {X : fm_X} (C : GCL G X) (HS : GS X) {b L : Nat} {xs : Nat → Int32} (P : GP X b L xs) (hL : L ≤ 3072) {M : fm_M} {i x mm o kc ks mc ms fr lo : Nat} {PC : fm_M → Prop} {VC VR : Int32 → Prop} {rd : Nat → Nat} {S1 : Rs} {a1 : Ab} {p0 : Int32} (hi : i + 6 ≤ L) (hc : kc + 34 ≤ room_1.cells) (hs : ks + 2686 ≤ room_1.slots) (code : Nat) (hmc : mc ≤ 34) (hms : ms ≤ 2686) (hcd : code < 4) (hfr : fr + 1 ≤ 12) (hlo : 8 + (4 + 11) + lo ≤ 438) (q0 : xs (i + 1) = p0)
    (KC : fm_CtW G yL_fit cL_fit 4 (some .int) hL_fit 9 200 mc ms [.ref x, .int p0, .ref o] M (fun v M1 => v = some (.int (nI code)) ∧ PC M1))
    (hPC : ∀ M1, PC M1 → ∃ f, LC G M1 x o rd S1 a1 f ∧ (code = 0 → ∃ z : Int32, f 0 = z.toInt64 ∧ VC z))
    (KR : ∀ M1, RPic G rd S1 M1 → fm_Ct G yX6_fit cX6_fit 4 (some .int) fr lo 0 0 [.ref mm, .int p0] M1 (fun v M2 => ∃ S2 r, v = some (.int r) ∧ VR r ∧ RPic G rd S2 M2 ∧ RFr rd M1 M2 ∧ RR a1 S2 ∧ S2.2 0 = nI code))
    (hu : code = 0 → ∀ z r, VC z → VR r → z = r) (ha : AbOk a1) (e0 : rd 0 = mm) (kk : ∀ (a2 : Ab) (M2 : fm_M), LI G M2 x mm o a2 → GW G X 7 M2 (kc + 34) (ks + 2686) 755 (lwl b x mm o i) []) : GW G X 7 M kc ks 643 (lwl b x mm o i) [] := by
  subst q0
  refine t_fit C HS P hL hi hc hs hmc hms hcd hfr hlo KC (PR := fun r M2 => VR r ∧ ∃ M1 f S2, LC G M1 x o rd S1 a1 f ∧ (code = 0 → ∃ z : Int32, f 0 = z.toInt64 ∧ VC z) ∧ RPic G rd S2 M2 ∧ RFr rd M1 M2 ∧ RR a1 S2 ∧ S2.2 0 = nI code) ?_ ?_ ?_
  · intro M1 hp
    obtain ⟨f, h1, h2⟩ := hPC M1 hp
    refine ⟨⟨_, by rw [← e0]; exact h1.rp.ob⟩, (KR M1 h1.rp).mono ?_⟩
    rintro v M2 ⟨S2, r, rfl, h3, h4, h5, h6, h7⟩
    exact ⟨r, rfl, h3, M1, f, S2, h1, h2, h4, h5, h6, h7⟩
  · rintro r M2 ⟨h3, M1, f, S2, h1, h2, h4, h5, h6, h7⟩
    refine ⟨⟨rd, S2, e0, h4, h7⟩, fun hz => ?_⟩
    obtain ⟨z, h8, h9⟩ := h2 hz
    exact ⟨f, (LI.of h1 h4 h5 h6 ha e0).2, by rw [h8, hu hz z r h9 h3]⟩
  · rintro r M2 ⟨h3, M1, f, S2, h1, h2, h4, h5, h6, h7⟩
    exact kk a1 M2 (LI.of h1 h4 h5 h6 ha e0).1
set_option maxHeartbeats 4000000 in
set_option maxRecDepth 100000 in
theorem u_letters {G : fm_G} {X : fm_X} (C : GCL G X) (HS : GS X) {b L : Nat} {xs : Nat → Int32} (P : GP X b L xs) (hL : L ≤ 3072) {M : fm_M} {i x mm o kc ks mc ms fr lo : Nat} {PC : fm_M → Prop} {VC VR : Int32 → Prop} {rd : Nat → Nat} {S1 : Rs} {a1 : Ab} {p0 : Int32} (hi : i + 6 ≤ L) (hc : kc + 34 ≤ room_1.cells) (hs : ks + 2686 ≤ room_1.slots) (code : Nat) (hmc : mc ≤ 34) (hms : ms ≤ 2686) (hcd : code < 4) (hfr : fr + 1 ≤ 12) (hlo : 8 + (2 + 11) + lo ≤ 438) (q0 : xs (i + 1) = p0)
    (KC : fm_CtW G yL_letters cL_letters 4 (some .int) hL_letters 9 200 mc ms [.ref x, .int p0, .ref o] M (fun v M1 => v = some (.int (nI code)) ∧ PC M1))
    (hPC : ∀ M1, PC M1 → ∃ f, LC G M1 x o rd S1 a1 f ∧ (code = 0 → ∃ z : Int32, f 0 = z.toInt64 ∧ VC z))
    (KR : ∀ M1, RPic G rd S1 M1 → fm_Ct G yX6_letters cX6_letters 2 (some .int) fr lo 0 0 [.ref mm, .int p0] M1 (fun v M2 => ∃ S2 r, v = some (.int r) ∧ VR r ∧ RPic G rd S2 M2 ∧ RFr rd M1 M2 ∧ RR a1 S2 ∧ S2.2 0 = nI code))
    (hu : code = 0 → ∀ z r, VC z → VR r → z = r) (ha : AbOk a1) (e0 : rd 0 = mm) (kk : ∀ (a2 : Ab) (M2 : fm_M), LI G M2 x mm o a2 → GW G X 7 M2 (kc + 34) (ks + 2686) 755 (lwl b x mm o i) []) : GW G X 7 M kc ks 699 (lwl b x mm o i) [] := by
  subst q0
  refine t_letters C HS P hL hi hc hs hmc hms hcd hfr hlo KC (PR := fun r M2 => VR r ∧ ∃ M1 f S2, LC G M1 x o rd S1 a1 f ∧ (code = 0 → ∃ z : Int32, f 0 = z.toInt64 ∧ VC z) ∧ RPic G rd S2 M2 ∧ RFr rd M1 M2 ∧ RR a1 S2 ∧ S2.2 0 = nI code) ?_ ?_ ?_
  · intro M1 hp
    obtain ⟨f, h1, h2⟩ := hPC M1 hp
    refine ⟨⟨_, by rw [← e0]; exact h1.rp.ob⟩, (KR M1 h1.rp).mono ?_⟩
    rintro v M2 ⟨S2, r, rfl, h3, h4, h5, h6, h7⟩
    exact ⟨r, rfl, h3, M1, f, S2, h1, h2, h4, h5, h6, h7⟩
  · rintro r M2 ⟨h3, M1, f, S2, h1, h2, h4, h5, h6, h7⟩
    refine ⟨⟨rd, S2, e0, h4, h7⟩, fun hz => ?_⟩
    obtain ⟨z, h8, h9⟩ := h2 hz
    exact ⟨f, (LI.of h1 h4 h5 h6 ha e0).2, by rw [h8, hu hz z r h9 h3]⟩
  · rintro r M2 ⟨h3, M1, f, S2, h1, h2, h4, h5, h6, h7⟩
    exact kk a1 M2 (LI.of h1 h4 h5 h6 ha e0).1
