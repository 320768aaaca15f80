/-! A ROUND, on contents -/
/-- x is the first level at which E holds, NEV if it holds at none up to h -/
def LT (E : Nat → Prop) (h : Nat) (x : Int32) : Prop := (¬ E h ∧ x = NEV) ∨ ∃ j, j < h ∧ E (j + 1) ∧ ¬ E j ∧ x = nI (j + 1)
theorem LT_lev {E : Nat → Prop} {h : Nat} {a nw : Bool} {x : Int32} (h1 : a = true ↔ E h) (h2 : E (h + 1) ↔ (E h ∨ nw = true)) (h3 : LT E h x) : ((a || nw) = true ↔ E (h + 1)) ∧ ((nw && !a) = true ↔ (E (h + 1) ∧ ¬ E h)) ∧ LT E (h + 1) (if (nw && !a) = true then nI (h + 1) else x) := by
  have k1 : (a || nw) = true ↔ E (h + 1) := by rw [h2, Bool.or_eq_true, h1]
  have k2 : (nw && !a) = true ↔ (E (h + 1) ∧ ¬ E h) := by
    rw [Bool.and_eq_true, h2]
    constructor
    · rintro ⟨q1, q2⟩
      refine ⟨Or.inr q1, fun z => ?_⟩
      rw [h1.mpr z] at q2
      cases q2
    · rintro ⟨q1 | q1, q2⟩
      · exact absurd q1 q2
      · refine ⟨q1, ?_⟩
        cases a with
        | false => rfl
        | true => exact absurd (h1.mp rfl) q2
  refine ⟨k1, k2, ?_⟩
  by_cases h4 : (nw && !a) = true
  · rw [if_pos h4]
    exact Or.inr ⟨h, Nat.lt_succ_self h, (k2.mp h4).1, (k2.mp h4).2, rfl⟩
  · rw [if_neg h4]
    rcases h3 with ⟨q1, q2⟩ | ⟨j, q1, q2⟩
    · refine Or.inl ⟨fun z => h4 (k2.mpr ⟨z, q1⟩), q2⟩
    · exact Or.inr ⟨j, by omega, q2⟩
theorem nI_NEV {j : Nat} (h : j < 5000) : nI j ≠ NEV := fun z => by
  have e : NEV = nI 1000000 := by decide
  rw [e] at z
  have := (nI_eq (by omega) (by omega)).mp z
  omega
theorem LT_nev {E : Nat → Prop} {h : Nat} {x : Int32} (hh : h < 4000) (hm : ∀ j k, j ≤ k → E j → E k) (h3 : LT E h x) : x = NEV ↔ ¬ E h := by
  rcases h3 with ⟨q1, q2⟩ | ⟨j, q1, q2, q3, q4⟩
  · exact ⟨fun _ => q1, fun _ => q2⟩
  · constructor
    · intro z
      exact absurd (q4.symm.trans z) (nI_NEV (by omega))
    · intro z
      exact absurd (hm (j + 1) h (by omega) q2) z
theorem sumq_P {s o : Nat → Bool} {A B : Nat → Prop} {c : Nat} (hc : c < 512) (hA : ∀ x, x < 512 → (s x = true ↔ A x)) (hB : ∀ x, x < 512 → (o x = true ↔ B x)) : sumq s o c ↔ sumP A B c := by
  constructor
  · rintro ⟨x, h1, h2, h3, h4⟩
    exact ⟨x, h1, (hA x (by omega)).mp h2, h3, (hB _ (by omega)).mp h4⟩
  · rintro ⟨x, h1, h2, h3, h4⟩
    exact ⟨x, h1, (hA x (by omega)).mpr h2, h3, (hB _ (by omega)).mpr h4⟩
/-- what an end holds by round h -/
def enI (g : Gr) (r i h : Nat) (S : Cs) : Prop := ∀ c, c < 512 → (bq (S.1 (15 + 2 * (5 * r + i))) c = true ↔ EH g r i h c) ∧ (bq (S.1 (16 + 2 * (5 * r + i))) c = true ↔ (EH g r i h c ∧ ¬ EH g r i (h - 1) c)) ∧ LT (fun j => EH g r i j c) h (S.2.1 (20 + (5 * r + i)) c)
/-- a nonterminal's counts by round h: those it had, the newest -/
def hdI (g : Gr) (n h : Nat) (S : Cs) : Prop := ∀ c, c < 512 → (bq (S.1 (3 * n)) c = true ↔ Hh g h n c) ∧ (bq (S.1 (3 * n + 1)) c = true ↔ (Hh g h n c ∧ ¬ Hh g (h - 1) n c))
theorem tk_en {g : Gr} {r i h : Nat} {S S' : Cs} {nw : Nat → Bool} (hT : tkE S S' (5 * r + i) nw (nI (h + 1))) (hE : enI g r i h S) (hnw : ∀ c, c < 512 → (EH g r i (h + 1) c ↔ (EH g r i h c ∨ nw c = true))) : enI g r i (h + 1) S' := by
  intro c hc
  obtain ⟨t1, t2, t3⟩ := hT c hc
  obtain ⟨e1, e2, e3⟩ := hE c hc
  obtain ⟨k1, k2, k3⟩ := LT_lev (E := fun j => EH g r i j c) (h := h) e1 (hnw c hc) e3
  exact ⟨by rw [t2]; exact k1, by rw [t1]; exact k2, by rw [t3]; exact k3⟩
/-- a rule's ends grow by a round -/
theorem gr_en {g : Gr} (hg : GrOk g) {r h : Nat} (hr : r < g.nR) {S S' : Cs} (hG : grI S S' r (g.sz r) (g.lc r) (g.pt r) (nI (h + 1)) 0) (hE : ∀ i, i ≤ g.sz r → enI g r i h S) (hH : ∀ n, n < 5 → hdI g n h S) : ∀ i, i ≤ g.sz r → enI g r i (h + 1) S' := by
  obtain ⟨g1, g2, g3, -⟩ := hG
  obtain ⟨a1, a2, a3, a4⟩ := hg.2 r hr
  suffices hs : ∀ d i, i + d = g.sz r → enI g r i (h + 1) S' from fun i hi => hs (g.sz r - i) i (by omega)
  intro d
  induction d with
  | zero =>
    intro i hi
    have e : i = g.sz r := by omega
    subst e
    refine tk_en g2 (hE _ (Nat.le_refl _)) (fun c hc => ?_)
    rw [EH_last, decide_eq_true_iff]
    constructor
    · exact Or.inr
    · rintro (z | z)
      · exact (EH_last g r h c).mp (EH_mono1 g r _ h c z)
      · exact z
  | succ d ih =>
    intro i hi
    obtain ⟨nw, n1, n2⟩ := g3 i (Nat.zero_le i) (by omega)
    have hI := ih (i + 1) (by omega)
    refine tk_en n2 (hE i (by omega)) (fun c hc => ?_)
    rw [EH_new g r i h c (by omega), n1 c hc]
    have hn := hH (g.pt r i) (a4 i (by omega))
    have s1 : sumq (bq (S.1 (3 * g.pt r i + 1))) (bq (S'.1 (15 + 2 * (5 * r + i + 1)))) c ↔ sumP (fun x => Hh g h (g.pt r i) x ∧ ¬ Hh g (h - 1) (g.pt r i) x) (EH g r (i + 1) (h + 1)) c := sumq_P hc (fun x hx => (hn x hx).2) (fun x hx => (hI x hx).1)
    have s2 : sumq (bq (S'.1 (16 + 2 * (5 * r + i + 1)))) (bq (S.1 (3 * g.pt r i))) c ↔ sumP (fun x => EH g r (i + 1) (h + 1) x ∧ ¬ EH g r (i + 1) h x) (Hh g h (g.pt r i)) c := sumq_P hc (fun x hx => (hI x hx).2.1) (fun x hx => (hn x hx).1)
    rw [s1, s2]
/-- found in this round by rules below r -/
def Fnd (g : Gr) (h r n c : Nat) : Prop := ¬ Hh g h n c ∧ ∃ r', r' < r ∧ g.lf r' = n ∧ EH g r' 0 (h + 1) c
/-- a root: the least rule that makes the count at that level -/
def rtI (g : Gr) (h n c : Nat) (x : Int32) : Prop := ∃ r, r < g.nR ∧ x = nI r ∧ g.lf r = n ∧ EH g r 0 (h + 1) c ∧ ∀ r', r' < r → g.lf r' = n → ¬ EH g r' 0 (h + 1) c
def RT (g : Gr) (h n c : Nat) (x : Int32) : Prop := ∀ j, j < h → Hh g (j + 1) n c → ¬ Hh g j n c → rtI g j n c x
/-- found, heights, roots of a nonterminal in the middle of round h + 1 -/
def fnI (g : Gr) (h r n : Nat) (S : Cs) : Prop := ∀ c, c < 512 → (bq (S.1 (3 * n + 2)) c = true ↔ Fnd g h r n c) ∧ (Fnd g h r n c → S.2.1 n c = nI (h + 1) ∧ rtI g h n c (S.2.1 (5 + n) c)) ∧ (¬ Fnd g h r n c → LT (fun j => Hh g j n c) h (S.2.1 n c) ∧ RT g h n c (S.2.1 (5 + n) c))
theorem Fnd_s {g : Gr} {h r n c : Nat} (hn : g.lf r ≠ n) : Fnd g h (r + 1) n c ↔ Fnd g h r n c := by
  constructor
  · rintro ⟨h1, r', h2, h3, h4⟩
    refine ⟨h1, r', ?_, h3, h4⟩
    have : r' ≠ r := fun e => hn (by rw [← e]; exact h3)
    omega
  · rintro ⟨h1, r', h2, h3⟩
    exact ⟨h1, r', by omega, h3⟩
theorem fn_find {g : Gr} {h r : Nat} (hh : h < 4000) (hr : r < g.nR) {S S' : Cs} (hF : fdI S S' (16 + 10 * r) (g.lf r) 512 (nI r) (nI (h + 1))) (hE : enI g r 0 (h + 1) S) (hN : fnI g h r (g.lf r) S) : fnI g h (r + 1) (g.lf r) S' := by
  intro c hc
  obtain ⟨f1, f2, f3⟩ := hF.2 c hc
  obtain ⟨n1, n2, n3⟩ := hN c hc
  have hen := (hE c hc).2.1
  rw [show 16 + 2 * (5 * r + 0) = 16 + 10 * r by omega, show h + 1 - 1 = h from rfl] at hen
  rw [decide_eq_true hc, Bool.true_and] at f1 f2 f3
  have hnev : S.2.1 (g.lf r) c = NEV ↔ (¬ Fnd g h r (g.lf r) c ∧ ¬ Hh g h (g.lf r) c) := by
    by_cases hfd : Fnd g h r (g.lf r) c
    · have e := (n2 hfd).1
      constructor
      · intro z; exact absurd (e.symm.trans z) (nI_NEV (by omega))
      · intro z; exact absurd hfd z.1
    · rw [LT_nev hh (fun j k hjk z => Hh_mono g hjk z) (n3 hfd).1]
      exact ⟨fun z => ⟨hfd, z⟩, fun z => z.2⟩
  have hit : hitq (S.1 (16 + 10 * r)) (S.2.1 (g.lf r)) c = true ↔ (EH g r 0 (h + 1) c ∧ ¬ Hh g h (g.lf r) c ∧ ¬ Fnd g h r (g.lf r) c) := by
    unfold hitq
    rw [Bool.and_eq_true, hen, decide_eq_true_iff, hnev]
    constructor
    · rintro ⟨⟨z1, z2⟩, z3, z4⟩
      exact ⟨z1, z4, z3⟩
    · rintro ⟨z1, z2, z3⟩
      exact ⟨⟨z1, fun z => z2 ((Hh_EH g h _ c).mpr ⟨r, hr, rfl, z⟩)⟩, z3, z2⟩
  have hfd : Fnd g h (r + 1) (g.lf r) c ↔ (Fnd g h r (g.lf r) c ∨ hitq (S.1 (16 + 10 * r)) (S.2.1 (g.lf r)) c = true) := by
    rw [hit]
    constructor
    · rintro ⟨z1, r', z2, z3, z4⟩
      by_cases hq : Fnd g h r (g.lf r) c
      · exact Or.inl hq
      · by_cases he : r' = r
        · subst he; exact Or.inr ⟨z4, z1, hq⟩
        · exact Or.inl ⟨z1, r', by omega, z3, z4⟩
    · rintro (⟨z1, r', z2, z3⟩ | ⟨z1, z2, z3⟩)
      · exact ⟨z1, r', by omega, z3⟩
      · exact ⟨z2, r, by omega, rfl, z1⟩
  refine ⟨?_, fun q => ?_, fun q => ?_⟩
  · rw [f1, Bool.or_eq_true, n1, hfd]
  · by_cases hq : hitq (S.1 (16 + 10 * r)) (S.2.1 (g.lf r)) c = true
    · rw [if_pos hq] at f2 f3
      obtain ⟨z1, z2, z3⟩ := hit.mp hq
      exact ⟨f2, r, hr, f3, rfl, z1, fun r' h1 h2 h3 => z3 ⟨z2, r', h1, h2, h3⟩⟩
    · rw [if_neg hq] at f2 f3
      have q' := (hfd.mp q).resolve_right hq
      rw [f2, f3]
      exact n2 q'
  · have hq : ¬ hitq (S.1 (16 + 10 * r)) (S.2.1 (g.lf r)) c = true := fun z => q (hfd.mpr (Or.inr z))
    rw [if_neg hq] at f2 f3
    rw [f2, f3]
    exact n3 (fun z => q (hfd.mpr (Or.inl z)))
/-- the rules as the object holds them -/
def ruS (g : Gr) (S : Cs) : Prop := S.2.2 0 = nI g.nR ∧ ∀ r, r < g.nR → ruI S r (g.lf r) (g.sz r) (g.lc r) (g.pt r)
/-- in the middle of round h + 1, behind rule r -/
def MI (g : Gr) (h r : Nat) (S : Cs) : Prop := (∀ n, n < 5 → hdI g n h S ∧ fnI g h r n S) ∧ (∀ r', r' < r → ∀ i, i ≤ g.sz r' → enI g r' i (h + 1) S) ∧ ∀ r', r ≤ r' → r' < g.nR → ∀ i, i ≤ g.sz r' → enI g r' i h S
/-- behind round h -/
def CI (g : Gr) (h : Nat) (S : Cs) : Prop := (∀ n, n < 5 → hdI g n h S ∧ ∀ c, c < 512 → bq (S.1 (3 * n + 2)) c = false ∧ LT (fun j => Hh g j n c) h (S.2.1 n c) ∧ RT g h n c (S.2.1 (5 + n) c)) ∧ ∀ r, r < g.nR → ∀ i, i ≤ g.sz r → enI g r i h S
theorem CI_MI {g : Gr} {h : Nat} {S : Cs} (hC : CI g h S) : MI g h 0 S := by
  refine ⟨fun n hn => ⟨(hC.1 n hn).1, fun c hc => ?_⟩, fun r' hr' => absurd hr' (Nat.not_lt_zero _), fun r' _ hr' => hC.2 r' hr'⟩
  obtain ⟨c1, c2, c3⟩ := (hC.1 n hn).2 c hc
  have hf : ¬ Fnd g h 0 n c := fun ⟨_, r', z, _⟩ => absurd z (Nat.not_lt_zero _)
  exact ⟨⟨fun z => absurd (c1.symm.trans z) Bool.false_ne_true, fun z => absurd z hf⟩, fun z => absurd z hf, fun _ => ⟨c2, c3⟩⟩
theorem enI.of {g : Gr} {r i h : Nat} {S S' : Cs} (hE : enI g r i h S) (h1 : S'.1 (15 + 2 * (5 * r + i)) = S.1 (15 + 2 * (5 * r + i))) (h2 : S'.1 (16 + 2 * (5 * r + i)) = S.1 (16 + 2 * (5 * r + i))) (h3 : S'.2.1 (20 + (5 * r + i)) = S.2.1 (20 + (5 * r + i))) : enI g r i h S' := by
  intro c hc
  rw [h1, h2, h3]
  exact hE c hc
theorem hdI.of {g : Gr} {n h : Nat} {S S' : Cs} (hE : hdI g n h S) (h1 : S'.1 (3 * n) = S.1 (3 * n)) (h2 : S'.1 (3 * n + 1) = S.1 (3 * n + 1)) : hdI g n h S' := by
  intro c hc
  rw [h1, h2]
  exact hE c hc
theorem fnI.of {g : Gr} {h r n : Nat} {S S' : Cs} (hE : fnI g h r n S) (h1 : S'.1 (3 * n + 2) = S.1 (3 * n + 2)) (h2 : S'.2.1 n = S.2.1 n) (h3 : S'.2.1 (5 + n) = S.2.1 (5 + n)) : fnI g h r n S' := by
  intro c hc
  rw [h1, h2, h3]
  exact hE c hc
/-- one rule of a round -/
theorem MI_step {g : Gr} (hg : GrOk g) {h r : Nat} (hh : h < 4000) (hr : r < g.nR) {S S1 S2 : Cs} (hM : MI g h r S) (hG : grI S S1 r (g.sz r) (g.lc r) (g.pt r) (nI (h + 1)) 0) (hF : fdI S1 S2 (16 + 10 * r) (g.lf r) 512 (nI r) (nI (h + 1))) : MI g h (r + 1) S2 := by
  obtain ⟨m1, m2, m3⟩ := hM
  obtain ⟨a1, a2, a3, a4⟩ := hg.2 r hr
  have h10 := hg.1
  have en := gr_en hg hr hG (m3 r (Nat.le_refl r) hr) (fun n hn => (m1 n hn).1)
  have y1 := hG.1
  have x1 := hF.1
  have eq1 : ∀ n, n < 5 → hdI g n h S1 ∧ fnI g h r n S1 := fun n hn => ⟨(m1 n hn).1.of (y1.1 _ (by unfold kR; omega)) (y1.1 _ (by unfold kR; omega)), (m1 n hn).2.of (y1.1 _ (by unfold kR; omega)) (y1.2.1 _ (by unfold jR; omega)) (y1.2.1 _ (by unfold jR; omega))⟩
  refine ⟨fun n hn => ⟨?_, ?_⟩, fun r' hr' i hi => ?_, fun r' h1 h2 i hi => ?_⟩
  · exact (eq1 n hn).1.of (x1.1 _ (by simp; omega)) (x1.1 _ (by simp; omega))
  · by_cases hnl : g.lf r = n
    · subst hnl
      exact fn_find hh hr hF (en 0 (Nat.zero_le _)) (eq1 _ a1).2
    · have e := (eq1 n hn).2.of (S' := S2) (x1.1 _ (by simp; omega)) (x1.2.1 _ (by simp; omega)) (x1.2.1 _ (by simp; omega))
      intro c hc
      rw [Fnd_s hnl]
      exact e c hc
  · have hsz : g.sz r' ≤ 4 := (hg.2 r' (by omega)).2.1
    have e1 : enI g r' i (h + 1) S1 := by
      by_cases he : r' = r
      · subst he; exact en i hi
      · exact (m2 r' (by omega) i hi).of (y1.1 _ (by unfold kR; omega)) (y1.1 _ (by unfold kR; omega)) (y1.2.1 _ (by unfold jR; omega))
    exact e1.of (x1.1 _ (by simp; omega)) (x1.1 _ (by simp; omega)) (x1.2.1 _ (by simp; omega))
  · have hsz : g.sz r' ≤ 4 := (hg.2 r' h2).2.1
    have e1 := (m3 r' (by omega) h2 i hi).of (S' := S1) (y1.1 _ (by unfold kR; omega)) (y1.1 _ (by unfold kR; omega)) (y1.2.1 _ (by unfold jR; omega))
    exact e1.of (x1.1 _ (by simp; omega)) (x1.1 _ (by simp; omega)) (x1.2.1 _ (by simp; omega))
/-- all rules done, nonterminals below n have ended the round -/
def NI (g : Gr) (h m : Nat) (S : Cs) : Prop := (∀ n, n < m → hdI g n (h + 1) S ∧ ∀ c, c < 512 → bq (S.1 (3 * n + 2)) c = false) ∧ (∀ n, m ≤ n → n < 5 → hdI g n h S ∧ ∀ c, c < 512 → (bq (S.1 (3 * n + 2)) c = true ↔ Fnd g h g.nR n c)) ∧ (∀ n, n < 5 → ∀ c, c < 512 → LT (fun j => Hh g j n c) (h + 1) (S.2.1 n c) ∧ RT g (h + 1) n c (S.2.1 (5 + n) c)) ∧ ∀ r, r < g.nR → ∀ i, i ≤ g.sz r → enI g r i (h + 1) S
theorem Fnd_all (g : Gr) (h n c : Nat) : Fnd g h g.nR n c ↔ (Hh g (h + 1) n c ∧ ¬ Hh g h n c) := by
  constructor
  · rintro ⟨h1, r, h2⟩
    exact ⟨⟨r, h2⟩, h1⟩
  · rintro ⟨⟨r, h2⟩, h1⟩
    exact ⟨h1, r, h2⟩
theorem MI_NI {g : Gr} {h : Nat} {S : Cs} (hM : MI g h g.nR S) : NI g h 0 S := by
  obtain ⟨m1, m2, m3⟩ := hM
  refine ⟨fun n hn => absurd hn (Nat.not_lt_zero n), fun n _ hn => ⟨(m1 n hn).1, fun c hc => ((m1 n hn).2 c hc).1⟩, fun n hn c hc => ?_, m2⟩
  obtain ⟨n1, n2, n3⟩ := (m1 n hn).2 c hc
  by_cases hf : Fnd g h g.nR n c
  · obtain ⟨e1, e2⟩ := n2 hf
    have hf' := (Fnd_all g h n c).mp hf
    refine ⟨Or.inr ⟨h, Nat.lt_succ_self h, hf'.1, hf'.2, e1⟩, fun j hj z1 z2 => ?_⟩
    by_cases hjh : j = h
    · subst hjh; exact e2
    · exact absurd (Hh_mono g (show j + 1 ≤ h by omega) z1) hf'.2
  · obtain ⟨e1, e2⟩ := n3 hf
    have hf' : ¬ (Hh g (h + 1) n c ∧ ¬ Hh g h n c) := fun z => hf ((Fnd_all g h n c).mpr z)
    refine ⟨?_, fun j hj z1 z2 => ?_⟩
    · rcases e1 with ⟨q1, q2⟩ | ⟨j, q1, q2⟩
      · exact Or.inl ⟨fun z => hf' ⟨z, q1⟩, q2⟩
      · exact Or.inr ⟨j, by omega, q2⟩
    · by_cases hjh : j = h
      · subst hjh; exact absurd ⟨z1, z2⟩ hf'
      · exact e2 j (by omega) z1 z2
theorem NI_step {g : Gr} {h m : Nat} (hg : GrOk g) (hm : m < 5) {S S' : Cs} (hN : NI g h m S) (hX : eqX S S' [3 * m, 3 * m + 1, 3 * m + 2] []) (hc : ∀ c, c < 512 → bq (S'.1 (3 * m + 1)) c = bq (S.1 (3 * m + 2)) c ∧ bq (S'.1 (3 * m)) c = (bq (S.1 (3 * m)) c || bq (S.1 (3 * m + 2)) c) ∧ bq (S'.1 (3 * m + 2)) c = false) : NI g h (m + 1) S' := by
  obtain ⟨n1, n2, n3, n4⟩ := hN
  have h10 := hg.1
  refine ⟨fun n hn => ?_, fun n h1 h2 => ?_, fun n hn c hc' => ?_, fun r hr i hi => ?_⟩
  · by_cases he : n = m
    · subst he
      obtain ⟨a1, a2⟩ := n2 n (Nat.le_refl n) hm
      refine ⟨fun c hc' => ?_, fun c hc' => (hc c hc').2.2⟩
      obtain ⟨k1, k2, k3⟩ := hc c hc'
      have f := (a2 c hc').trans (Fnd_all g h n c)
      rw [k1, k2, Bool.or_eq_true, f, (a1 c hc').1, show h + 1 - 1 = h from rfl]
      refine ⟨⟨?_, ?_⟩, Iff.rfl⟩
      · rintro (z | z)
        · exact Hh_mono1 g h n c z
        · exact z.1
      · intro z
        by_cases hz : Hh g h n c
        · exact Or.inl hz
        · exact Or.inr ⟨z, hz⟩
    · obtain ⟨a1, a2⟩ := n1 n (by omega)
      refine ⟨a1.of (hX.1 _ (by simp; omega)) (hX.1 _ (by simp; omega)), fun c hc' => ?_⟩
      rw [hX.1 (3 * n + 2) (by simp; omega)]
      exact a2 c hc'
  · obtain ⟨a1, a2⟩ := n2 n (by omega) h2
    refine ⟨a1.of (hX.1 _ (by simp; omega)) (hX.1 _ (by simp; omega)), fun c hc' => ?_⟩
    rw [hX.1 (3 * n + 2) (by simp; omega)]
    exact a2 c hc'
  · rw [hX.2.1 n (by simp), hX.2.1 (5 + n) (by simp)]
    exact n3 n hn c hc'
  · have hsz : g.sz r ≤ 4 := (hg.2 r hr).2.1
    exact (n4 r hr i hi).of (hX.1 _ (by simp; omega)) (hX.1 _ (by simp; omega)) (hX.2.1 _ (by simp))
theorem NI_CI {g : Gr} {h : Nat} {S : Cs} (hN : NI g h 5 S) : CI g (h + 1) S := by
  obtain ⟨n1, n2, n3, n4⟩ := hN
  exact ⟨fun n hn => ⟨(n1 n hn).1, fun c hc => ⟨(n1 n hn).2 c hc, n3 n hn c hc⟩⟩, n4⟩
